/-! the class's search over its row is the extreme over the row's subsets -/
theorem Sb.full {L : List Int} {s : Int} {c : Nat} (h : Sb L s c) : c = L.length → s = tsum L.length L := by
  induction h using Sb.ind with
  | nil => exact fun _ => rfl
  | out h _ =>
    intro w
    have := h.len
    rw [List.length_cons] at w
    omega
  | take h ih =>
    rename_i v l s c
    intro w
    rw [List.length_cons] at w
    have q := ih (by omega)
    show s + v = v + tsum l.length l
    omega
theorem tsum_perm {L L2 : List Int} (p : L.Perm L2) : tsum L.length L = tsum L2.length L2 :=
  Sb.full (Sb.perm p (tsum_sb L.length L (Nat.le_refl _))) p.length_eq
theorem GP.perm {t : T4} {L L2 : List Int} {S v : Int} (p : L.Perm L2) (h : GP t L S v) : GP t L2 S v := by
  obtain ⟨s, c, h1, h2, h3⟩ := h
  rw [p.length_eq] at h2 h3
  exact ⟨s, c, h1.perm p, h2, h3⟩
theorem smF_tsum (row : Nat → Int) : ∀ n k : Nat, smF row n k = tsum n ((List.range n).map (fun i => row (k + i)))
  | 0, k => rfl
  | n + 1, k => by
    rw [List.range_succ_eq_map, List.map_cons, List.map_map]
    show row k + smF row n (k + 1) = row (k + 0) + tsum n _
    rw [smF_tsum row n (k + 1), Nat.add_zero]
    rw [show (List.range n).map (fun i => row (k + 1 + i)) = (List.range n).map ((fun i => row (k + i)) ∘ Nat.succ) from List.map_congr_left (fun i _ => by show row (k + 1 + i) = row (k + (i + 1)); rw [show k + 1 + i = k + (i + 1) by omega])]
    rfl
def hidL (g : Prop) [Decidable g] (m : Nat) (row : Nat → Int) : List Int := if g then rowL m row else (rowL m row).reverse
theorem rowL_len (m : Nat) (row : Nat → Int) : (rowL m row).length = m := by
  unfold rowL
  rw [List.length_map, List.length_range]
theorem hidL_perm (g : Prop) [dg : Decidable g] (m : Nat) (row : Nat → Int) : (hidL g m row).Perm (rowL m row) := by
  unfold hidL
  split
  · exact List.Perm.refl _
  · exact List.reverse_perm _
theorem hidL_len (g : Prop) [dg : Decidable g] (m : Nat) (row : Nat → Int) : (hidL g m row).length = m := by
  rw [(hidL_perm g m row).length_eq, rowL_len]
theorem hidL_get (g : Prop) [dg : Decidable g] (m : Nat) (row : Nat → Int) {k : Nat} (hk : k < m) : row (ixG g m k) = (hidL g m row).getD k 0 := by
  unfold hidL ixG
  by_cases z : g
  · rw [if_pos z, if_pos z, List.getD_eq_getElem?_getD, List.getElem?_map, List.getElem?_range hk]
    rfl
  · rw [if_neg z, if_neg z, List.getD_eq_getElem?_getD, List.getElem?_reverse (by rw [rowL_len]; exact hk), rowL_len, List.getElem?_map, List.getElem?_range (by omega)]
    rfl
theorem fuF_ext {g : Prop} {dg : Decidable g} {t : T4} {b : Int} {m : Nat} {row : Nat → Int} (H : TI t b) (hs : SR row m) (hr : ∀ j : Nat, j < m → 5 ≤ row j ∧ row j ≤ 59998) : Ext g (GP t (rowL m row) (smF row m 0)) (fuF g t m row) := by
  have hl := hidL_len g m row
  have hp := hidL_perm g m row
  have eS : smF row m 0 = tsum (hidL g m row).length (hidL g m row) := by
    rw [tsum_perm hp, rowL_len, smF_tsum]
    unfold rowL
    rw [show (fun i => row (0 + i)) = row from funext fun i => by rw [Nat.zero_add]]
  have hb : ∀ x ∈ hidL g m row, 5 ≤ x ∧ x ≤ 59998 := fun x hx => by
    obtain ⟨j, hj, e⟩ := List.mem_map.mp (hp.mem_iff.mp hx)
    rw [← e]
    exact hr j (List.mem_range.mp hj)
  have q := fold_ext (g := g) (dg := dg) (t := t) (b := b) (L := hidL g m row) H hb (fun w => by unfold hidL; rw [if_pos w]; exact hs.list) (fun w => by
    unfold hidL
    rw [if_neg w]
    exact List.pairwise_reverse.mpr hs.list)
  rw [← eS, hl] at q
  have q2 := q.iff (Q := GP t (rowL m row) (smF row m 0)) (fun v => ⟨fun w => w.perm hp, fun w => w.perm hp.symm⟩)
  have e0 : tsum 0 (hidL g m row) = 0 := by cases hidL g m row <;> rfl
  unfold fuF
  rw [adO_eq, fu_state (L := hidL g m row) hl (fun k hk => hidL_get g m row hk) m (Nat.le_refl _)]
  rw [e0] at q2
  have et : (t.1 + smF row m 0 - 0, t.2.1 + 0, t.2.2.1 + (m : Int) - ((0 : Nat) : Int), t.2.2.2 + ((0 : Nat) : Int)) = (t.1 + smF row m 0, t.2.1, t.2.2.1 + (m : Int), t.2.2.2) := by
    refine Prod.ext ?_ (Prod.ext ?_ (Prod.ext ?_ ?_)) <;> simp only <;> omega
  rw [et] at q2
  exact q2
