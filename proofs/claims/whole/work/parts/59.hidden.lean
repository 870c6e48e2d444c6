/-! the class's row of hidden levels: sorted, and the same levels as the reference's -/
abbrev rowL (m : Nat) (row : Nat → Int) : List Int := (List.range m).map row
def SR (row : Nat → Int) (m : Nat) : Prop := ∀ i j : Nat, i < j → j < m → row i ≤ row j
theorem SR.list {row : Nat → Int} {m : Nat} (H : SR row m) : (rowL m row).Pairwise (· ≤ ·) := by
  refine List.pairwise_map.mpr ?_
  exact List.Pairwise.imp_of_mem (fun ha hb h => H _ _ h (List.mem_range.mp hb)) List.pairwise_lt_range
theorem hdP_spec (row : Nat → Int) (v : Int) : ∀ k : Nat, (∀ j : Nat, hdP row v k ≤ j → j < k → v < row j) ∧ (0 < hdP row v k → row (hdP row v k - 1) ≤ v)
  | 0 => ⟨fun j _ h => absurd h (Nat.not_lt_zero _), fun h => absurd h (Nat.lt_irrefl _)⟩
  | k + 1 => by
    have q := hdP_spec row v k
    by_cases h : v < row k
    · rw [hdP_t h]
      refine ⟨fun j h1 h2 => ?_, q.2⟩
      by_cases z : j = k
      · rw [z]; exact h
      · exact q.1 j h1 (by omega)
    · rw [hdP_f h]
      exact ⟨fun j h1 h2 => by omega, fun _ => by rw [Nat.add_sub_cancel]; omega⟩
theorem SR.hdE {row : Nat → Int} {m : Nat} (H : SR row m) (v : Int) : SR (hdR row m v) (m + 1) := by
  have ps := hdP_spec row v m
  have pl := hdP_le row v m
  unfold hdR
  generalize hdP row v m = p at ps pl
  intro i j hij hj
  show (if i = p then v else if p < i ∧ i ≤ m then row (i - 1) else row i) ≤ (if j = p then v else if p < j ∧ j ≤ m then row (j - 1) else row j)
  have lo : ∀ k : Nat, k < p → row k ≤ v := fun k hk => by
    have a := ps.2 (by omega)
    by_cases z : k = p - 1
    · rw [z]; exact a
    · have b := H k (p - 1) (by omega) (by omega)
      omega
  by_cases c1 : i = p
  · have b := ps.1 (j - 1) (by omega) (by omega)
    rw [if_pos c1, if_neg (by omega), if_pos (by omega)]
    omega
  · by_cases c2 : p < i
    · have b := H (i - 1) (j - 1) (by omega) (by omega)
      rw [if_neg c1, if_pos (by omega), if_neg (by omega), if_pos (by omega)]
      exact b
    · have a := lo i (by omega)
      rw [if_neg c1, if_neg (by omega)]
      by_cases c3 : j = p
      · rw [if_pos c3]; exact a
      · by_cases c4 : p < j
        · have b := ps.1 (j - 1) (by omega) (by omega)
          rw [if_neg c3, if_pos (by omega)]
          omega
        · rw [if_neg c3, if_neg (by omega)]
          exact H i j hij (by omega)
theorem hdR_perm (row : Nat → Int) (m : Nat) (v : Int) : (rowL (m + 1) (hdR row m v)).Perm (v :: rowL m row) := by
  have pl := hdP_le row v m
  unfold hdR
  generalize hdP row v m = p at pl
  have e1 : rowL (m + 1) (fun j => if j = p then v else if p < j ∧ j ≤ m then row (j - 1) else row j) = rowL p row ++ v :: (List.range (m - p)).map (fun i => row (p + i)) := by
    unfold rowL
    rw [show m + 1 = p + (1 + (m - p)) by omega, List.range_add, List.map_append, List.map_map]
    congr 1
    · exact List.map_congr_left (fun j hj => by
        have := List.mem_range.mp hj
        rw [if_neg (by omega), if_neg (by omega)])
    · rw [show 1 + (m - p) = (m - p) + 1 by omega, List.range_succ_eq_map, List.map_cons, List.map_map]
      congr 1
      · show (if p + 0 = p then v else _) = v
        rw [if_pos (Nat.add_zero p)]
      · exact List.map_congr_left (fun j hj => by
          have := List.mem_range.mp hj
          show (if p + (j + 1) = p then v else if p < p + (j + 1) ∧ p + (j + 1) ≤ _ then row (p + (j + 1) - 1) else row (p + (j + 1))) = row (p + j)
          rw [if_neg (by omega), if_pos (by omega)]
          rfl)
  have e2 : rowL m row = rowL p row ++ (List.range (m - p)).map (fun i => row (p + i)) := by
    unfold rowL
    conv => lhs; rw [show m = p + (m - p) by omega, List.range_add, List.map_append, List.map_map]
    rfl
  show (rowL (m + 1) (fun j => if j = p then v else if p < j ∧ j ≤ m then row (j - 1) else row j)).Perm _
  rw [e1, e2]
  exact List.perm_middle
theorem cbF_eq {g : Prop} {dg : Decidable g} {co ye sh gv lv : Nat → Int} {c y : Int} : ∀ (n k : Nat) (t : T4) (u : Int) (m : Nat) (row : Nat → Int) (P : List Int), m ≤ 12 → SR row m → (rowL m row).Perm P → (12 < m + (hcL co ye c y sh lv n k).length → cbQ g co ye c y sh gv lv n k t m row = -2000000000) ∧ (m + (hcL co ye c y sh lv n k).length ≤ 12 → ∃ row2 : Nat → Int, SR row2 (m + (hcL co ye c y sh lv n k).length) ∧ (rowL (m + (hcL co ye c y sh lv n k).length) row2).Perm ((hcL co ye c y sh lv n k).reverse ++ P) ∧ cbQ g co ye c y sh gv lv n k t m row = if m + (hcL co ye c y sh lv n k).length = 0 then -2000000000 else fuF g (lp (raceS co ye c y sh gv lv) n k (t, u)).1 (m + (hcL co ye c y sh lv n k).length) row2)
  | 0, k, t, u, m, row, P, hm, hs, hp => ⟨fun w => absurd w (by show ¬ 12 < m + 0; omega), fun _ => ⟨row, hs, hp, rfl⟩⟩
  | n + 1, k, t, u, m, row, P, hm, hs, hp => by
    by_cases h1 : co k = c ∧ ye k = y
    · by_cases h2 : 0 ≤ sh k
      · have q := cbF_eq (g := g) (dg := dg) (co := co) (ye := ye) (sh := sh) (gv := gv) (lv := lv) (c := c) (y := y) n (k + 1) (seenT sh gv lv k t) u m row P hm hs hp
        have eh : hcL co ye c y sh lv (n + 1) k = hcL co ye c y sh lv n (k + 1) := by
          rw [hcL, if_neg (fun w => by omega)]
        have er : lp (raceS co ye c y sh gv lv) (n + 1) k (t, u) = lp (raceS co ye c y sh gv lv) n (k + 1) (seenT sh gv lv k t, u) := by
          show lp (raceS co ye c y sh gv lv) n (k + 1) (raceS co ye c y sh gv lv k (t, u)) = _
          unfold raceS seenT
          rw [if_pos h1, if_pos h2, if_pos h2]
        have ec : cbQ g co ye c y sh gv lv (n + 1) k t m row = cbQ g co ye c y sh gv lv n (k + 1) (seenT sh gv lv k t) m row := by
          unfold cbQ
          conv => lhs; unfold cbF
          split
          · rename_i z _; exact absurd h1 z
          · rw [if_pos h2]
        rw [eh, er, ec]
        exact q
      · have eh : hcL co ye c y sh lv (n + 1) k = lv k :: hcL co ye c y sh lv n (k + 1) := by
          rw [hcL, if_pos ⟨h1.1, h1.2, by omega⟩]
        have er : lp (raceS co ye c y sh gv lv) (n + 1) k (t, u) = lp (raceS co ye c y sh gv lv) n (k + 1) (t, u + 1) := by
          show lp (raceS co ye c y sh gv lv) n (k + 1) (raceS co ye c y sh gv lv k (t, u)) = _
          unfold raceS
          rw [if_pos h1, if_neg h2]
        have ec : cbQ g co ye c y sh gv lv (n + 1) k t m row = if 12 ≤ m then -2000000000 else cbQ g co ye c y sh gv lv n (k + 1) t (m + 1) (hdR row m (lv k)) := by
          unfold cbQ
          conv => lhs; unfold cbF
          split
          · rename_i z _; exact absurd h1 z
          · rw [if_neg h2]
        rw [eh, er, ec]
        by_cases h3 : 12 ≤ m
        · rw [if_pos h3]
          exact ⟨fun _ => rfl, fun w => absurd w (by rw [List.length_cons]; omega)⟩
        · have q := cbF_eq (g := g) (dg := dg) (co := co) (ye := ye) (sh := sh) (gv := gv) (lv := lv) (c := c) (y := y) n (k + 1) t (u + 1) (m + 1) (hdR row m (lv k)) (lv k :: P) (by omega) (hs.hdE (lv k)) ((hdR_perm row m (lv k)).trans (List.Perm.cons _ hp))
          rw [if_neg h3, List.length_cons, show m + ((hcL co ye c y sh lv n (k + 1)).length + 1) = m + 1 + (hcL co ye c y sh lv n (k + 1)).length by omega, List.reverse_cons, List.append_assoc]
          exact q
    · have q := cbF_eq (g := g) (dg := dg) (co := co) (ye := ye) (sh := sh) (gv := gv) (lv := lv) (c := c) (y := y) n (k + 1) t u m row P hm hs hp
      have eh : hcL co ye c y sh lv (n + 1) k = hcL co ye c y sh lv n (k + 1) := by
        rw [hcL, if_neg (fun w => h1 ⟨w.1, w.2.1⟩)]
      have er : lp (raceS co ye c y sh gv lv) (n + 1) k (t, u) = lp (raceS co ye c y sh gv lv) n (k + 1) (t, u) := by
        show lp (raceS co ye c y sh gv lv) n (k + 1) (raceS co ye c y sh gv lv k (t, u)) = _
        unfold raceS
        rw [if_neg h1]
      have ec : cbQ g co ye c y sh gv lv (n + 1) k t m row = cbQ g co ye c y sh gv lv n (k + 1) t m row := by
        unfold cbQ
        conv => lhs; unfold cbF
        split
        · rfl
        · rename_i z _; exact absurd z h1
      rw [eh, er, ec]
      exact q
