/-! the class's search is the extreme: the rest -/
theorem Ext.dom {g : Prop} {P Q : Int → Prop} {r : Int} (h : Ext g P r) (a : ∀ v, P v → Q v) (b : ∀ v, Q v → ∃ w, P w ∧ (g → v ≤ w) ∧ (¬ g → w ≤ v)) : Ext g Q r := by
  rcases h with h | h
  · exact Or.inl ⟨h.1, fun v w => by obtain ⟨z, hz, _⟩ := b v w; exact h.2 z hz⟩
  · refine Or.inr ⟨a r h.1, fun v w => ?_⟩
    obtain ⟨z, hz, h1, h2⟩ := b v w
    have q := h.2 z hz
    exact ⟨fun y => Int.le_trans (h1 y) (q.1 y), fun y => Int.le_trans (q.2 y) (h2 y)⟩
theorem Sb.rest {L : List Int} {s : Int} {c : Nat} (h : Sb L s c) (hb : ∀ x ∈ L, 5 ≤ x ∧ x ≤ 59998) : 5 * (c : Int) ≤ s ∧ s ≤ 59998 * (c : Int) ∧ 5 * ((L.length : Int) - c) ≤ tsum L.length L - s ∧ tsum L.length L - s ≤ 59998 * ((L.length : Int) - c) := by
  induction h using Sb.ind with
  | nil => exact ⟨by decide, by decide, by decide, by decide⟩
  | out h ih =>
    rename_i v l s c
    obtain ⟨h1, h2, h3, h4⟩ := ih (fun x hx => hb x (List.mem_cons_of_mem _ hx))
    have q := hb v List.mem_cons_self
    have e : tsum (v :: l).length (v :: l) = v + tsum l.length l := rfl
    rw [e, List.length_cons]
    refine ⟨h1, h2, ?_, ?_⟩ <;> omega
  | take h ih =>
    rename_i v l s c
    obtain ⟨h1, h2, h3, h4⟩ := ih (fun x hx => hb x (List.mem_cons_of_mem _ hx))
    have q := hb v List.mem_cons_self
    have e : tsum (v :: l).length (v :: l) = v + tsum l.length l := rfl
    rw [e, List.length_cons]
    refine ⟨?_, ?_, ?_, ?_⟩ <;> omega
theorem Sb.ti {t : T4} {b : Int} {L : List Int} {s : Int} {c : Nat} (H : TI t b) (h : Sb L s c) (hb : ∀ x ∈ L, 5 ≤ x ∧ x ≤ 59998) : TI (t.1 + tsum L.length L - s, t.2.1 + s, t.2.2.1 + L.length - c, t.2.2.2 + c) (b + L.length) := by
  obtain ⟨a1, a2, a3, a4, a5, a6, a7⟩ := H
  obtain ⟨h1, h2, h3, h4⟩ := h.rest hb
  have hl := h.len
  refine ⟨?_, ?_, ?_, ?_, ?_, ?_, ?_⟩ <;> simp only <;> omega
theorem tgain_val {t : T4} {b : Int} (H : TI t b) : (tgain t ≠ NO ↔ ¬ (t.2.2.1 = 0 ∨ t.2.2.2 = 0)) ∧ (¬ (t.2.2.1 = 0 ∨ t.2.2.2 = 0) → tgain t = besF t.1 t.2.2.1 t.2.1 t.2.2.2) := by
  have h1 := H.1
  have h2 := H.2.1
  unfold tgain
  by_cases c : t.2.2.1 = 0 ∨ t.2.2.2 = 0
  · rw [if_pos (by omega)]
    exact ⟨⟨fun y => absurd rfl y, fun y => absurd c y⟩, fun y => absurd c y⟩
  · rw [if_neg (by omega)]
    have bb := besF_in H (by omega) (by omega)
    exact ⟨⟨fun _ => c, fun _ => by have e : NO = -2000000000 := rfl; omega⟩, fun _ => rfl⟩
/-- the fold over a sorted list is the extreme over its subsets -/
theorem fold_ext {g : Prop} {dg : Decidable g} {t : T4} {b : Int} {L : List Int} (H : TI t b) (hb : ∀ x ∈ L, 5 ≤ x ∧ x ≤ 59998) (up : g → L.Pairwise (· ≤ ·)) (dn : ¬ g → L.Pairwise (· ≥ ·)) : Ext g (GP t L (tsum L.length L)) (lp (fun j r => fur g r (tgain (t.1 + tsum L.length L - tsum (j + 1) L, t.2.1 + tsum (j + 1) L, t.2.2.1 + L.length - ((j + 1 : Nat) : Int), t.2.2.2 + ((j + 1 : Nat) : Int)))) L.length 0 (tgain (t.1 + tsum L.length L - tsum 0 L, t.2.1 + tsum 0 L, t.2.2.1 + L.length - ((0 : Nat) : Int), t.2.2.2 + ((0 : Nat) : Int)))) := by
  have X : ∀ c : Nat, c ≤ L.length → TI (t.1 + tsum L.length L - tsum c L, t.2.1 + tsum c L, t.2.2.1 + L.length - (c : Int), t.2.2.2 + (c : Int)) (b + L.length) := fun c hc => (tsum_sb c L hc).ti H hb
  have V := fun (c : Nat) (hc : c ≤ L.length) => tgain_val (X c hc)
  have base : Ext g (fun v => v = tgain (t.1 + tsum L.length L - tsum 0 L, t.2.1 + tsum 0 L, t.2.2.1 + L.length - ((0 : Nat) : Int), t.2.2.2 + ((0 : Nat) : Int)) ∧ v ≠ NO) (tgain (t.1 + tsum L.length L - tsum 0 L, t.2.1 + tsum 0 L, t.2.2.1 + L.length - ((0 : Nat) : Int), t.2.2.2 + ((0 : Nat) : Int))) := by
    by_cases z : tgain (t.1 + tsum L.length L - tsum 0 L, t.2.1 + tsum 0 L, t.2.2.1 + L.length - ((0 : Nat) : Int), t.2.2.2 + ((0 : Nat) : Int)) = NO
    · exact Or.inl ⟨z, fun v w => w.2 (w.1.trans z)⟩
    · exact Or.inr ⟨⟨rfl, z⟩, fun v w => ⟨fun _ => by omega, fun _ => by omega⟩⟩
  have q := Ext.lpE (g := g) (dg := dg) (x := fun j => tgain (t.1 + tsum L.length L - tsum (j + 1) L, t.2.1 + tsum (j + 1) L, t.2.2.1 + L.length - ((j + 1 : Nat) : Int), t.2.2.2 + ((j + 1 : Nat) : Int))) L.length 0 _ _ base (fun v w => w.2)
  refine q.dom (fun v w => ?_) (fun v w => ?_)
  · rcases w with w | ⟨j, h1, h2, h3, h4⟩
    · have k := (V 0 (Nat.zero_le _)).1.mp (by rw [← w.1]; exact w.2)
      exact ⟨_, 0, tsum_sb 0 L (Nat.zero_le _), k, w.1.trans ((V 0 (Nat.zero_le _)).2 k)⟩
    · have k := (V (j + 1) (by omega)).1.mp h4
      exact ⟨_, j + 1, tsum_sb (j + 1) L (by omega), k, h3.trans ((V (j + 1) (by omega)).2 k)⟩
  · obtain ⟨s, c, h1, h2, h3⟩ := w
    have hl := h1.len
    have k := (V c hl).1.mpr h2
    refine ⟨tgain (t.1 + tsum L.length L - tsum c L, t.2.1 + tsum c L, t.2.2.1 + L.length - (c : Int), t.2.2.2 + (c : Int)), ?_, ?_⟩
    · cases c with
      | zero => exact Or.inl ⟨rfl, k⟩
      | succ c => exact Or.inr ⟨c, Nat.zero_le _, by omega, rfl, k⟩
    · rw [(V c hl).2 h2, h3]
      have a := h1.ti H hb
      have d := X c hl
      obtain ⟨a1, a2, a3, a4, a5, a6, a7⟩ := a
      obtain ⟨d1, d2, d3, d4, d5, d6, d7⟩ := d
      unfold GC at h2
      simp only at a1 a2 a3 a4 a5 a6 a7 d1 d2 d3 d4 d5 d6 d7
      unfold GV
      constructor
      · intro w
        have lo := h1.low (up w)
        refine besF_mono ?_ ?_ ?_ ?_ ?_ ?_ <;> (try simp only) <;> omega
      · intro w
        have hi := h1.high (dn w)
        refine besF_mono ?_ ?_ ?_ ?_ ?_ ?_ <;> (try simp only) <;> omega
