/-! the gain of a race with hidden levels: an extreme over the subsets -/
abbrev NO : Int := -2000000000
/-- v is the gain where the subset (s, c) of hidden levels is new -/
def GV (t : T4) (S : Int) (m : Nat) (s : Int) (c : Nat) : Int := besF (t.1 + S - s) (t.2.2.1 + m - c) (t.2.1 + s) (t.2.2.2 + c)
def GC (t : T4) (m c : Nat) : Prop := ¬ (t.2.2.1 + m - c = 0 ∨ t.2.2.2 + c = 0)
def GP (t : T4) (L : List Int) (S : Int) (v : Int) : Prop := ∃ s c, Sb L s c ∧ GC t L.length c ∧ v = GV t S L.length s c
/-- r is the farthest that P holds of -/
def Ext (g : Prop) (P : Int → Prop) (r : Int) : Prop := (r = NO ∧ ∀ v, ¬ P v) ∨ (P r ∧ ∀ v, P v → (g → v ≤ r) ∧ (¬ g → r ≤ v))
theorem Ext.eq {g : Prop} {P : Int → Prop} {r r2 : Int} (h : Ext g P r) (h2 : Ext g P r2) : r = r2 := by
  rcases h with h | h <;> rcases h2 with h2 | h2
  · rw [h.1, h2.1]
  · exact absurd h2.1 (h.2 _)
  · exact absurd h.1 (h2.2 _)
  · have a := h.2 _ h2.1
    have b := h2.2 _ h.1
    by_cases z : g
    · have := a.1 z
      have := b.1 z
      omega
    · have := a.2 z
      have := b.2 z
      omega
theorem Ext.iff {g : Prop} {P Q : Int → Prop} {r : Int} (h : Ext g P r) (e : ∀ v, P v ↔ Q v) : Ext g Q r := by
  rw [show P = Q from funext fun v => propext (e v)] at h
  exact h
/-- one more that may come -/
theorem Ext.furE {g : Prop} {dg : Decidable g} {P : Int → Prop} {r x : Int} (h : Ext g P r) (hp : ∀ v, P v → v ≠ NO) : Ext g (fun v => P v ∨ v = x ∧ x ≠ NO) (fur g r x) := by
  unfold fur
  rcases h with h | h
  · rw [if_pos h.1]
    by_cases z : x = NO
    · exact Or.inl ⟨z, fun v w => w.elim (h.2 v) (fun w => w.2 z)⟩
    · exact Or.inr ⟨Or.inr ⟨rfl, z⟩, fun v w => w.elim (fun y => absurd y (h.2 v)) (fun y => ⟨fun _ => by omega, fun _ => by omega⟩)⟩
  · have n := hp _ h.1
    rw [if_neg n]
    by_cases z : x = NO
    · rw [if_pos z]
      exact Or.inr ⟨Or.inl h.1, fun v w => w.elim (h.2 v) (fun y => absurd z y.2)⟩
    · rw [if_neg z]
      right
      by_cases w : g
      · rw [if_pos w]
        by_cases y : r < x
        · rw [if_pos y]
          exact ⟨Or.inr ⟨rfl, z⟩, fun v u => ⟨fun _ => u.elim (fun a => by have := (h.2 v a).1 w; omega) (fun a => by omega), fun a => absurd w a⟩⟩
        · rw [if_neg y]
          exact ⟨Or.inl h.1, fun v u => ⟨fun _ => u.elim (fun a => (h.2 v a).1 w) (fun a => by omega), fun a => absurd w a⟩⟩
      · rw [if_neg w]
        by_cases y : x < r
        · rw [if_pos y]
          exact ⟨Or.inr ⟨rfl, z⟩, fun v u => ⟨fun a => absurd a w, fun _ => u.elim (fun a => by have := (h.2 v a).2 w; omega) (fun a => by omega)⟩⟩
        · rw [if_neg y]
          exact ⟨Or.inl h.1, fun v u => ⟨fun a => absurd a w, fun _ => u.elim (fun a => (h.2 v a).2 w) (fun a => by omega)⟩⟩
/-- a fold of it -/
theorem Ext.lpE {g : Prop} {dg : Decidable g} {x : Nat → Int} : ∀ (n k : Nat) (P : Int → Prop) (r : Int), Ext g P r → (∀ v, P v → v ≠ NO) → Ext g (fun v => P v ∨ ∃ j, k ≤ j ∧ j < k + n ∧ v = x j ∧ x j ≠ NO) (lp (fun j r => fur g r (x j)) n k r)
  | 0, k, P, r, h, _ => h.iff (fun v => ⟨Or.inl, fun w => w.elim id (fun ⟨j, h1, h2, _⟩ => by omega)⟩)
  | n + 1, k, P, r, h, hp => by
    have q := Ext.lpE (g := g) (dg := dg) (x := x) n (k + 1) _ _ (h.furE (dg := dg) (x := x k) hp) (fun v w => w.elim (hp v) (fun y => by rw [y.1]; exact y.2))
    exact q.iff (fun v => ⟨fun w => by
      rcases w with (w | w) | ⟨j, h1, h2, h3⟩
      · exact Or.inl w
      · exact Or.inr ⟨k, Nat.le_refl _, by omega, w⟩
      · exact Or.inr ⟨j, by omega, by omega, h3⟩, fun w => by
      rcases w with w | ⟨j, h1, h2, h3⟩
      · exact Or.inl (Or.inl w)
      · by_cases z : j = k
        · subst z
          exact Or.inl (Or.inr h3)
        · exact Or.inr ⟨j, by omega, by omega, h3⟩⟩)
