/-! unseen: both -/
theorem hcL_mem {co ye sh lv : Nat → Int} {c y : Int} {A B : Int} : ∀ (n k : Nat), (∀ r : Nat, k ≤ r → r < k + n → A ≤ lv r ∧ lv r ≤ B) → ∀ x ∈ hcL co ye c y sh lv n k, A ≤ x ∧ x ≤ B
  | 0, k, _, x, hx => absurd hx List.not_mem_nil
  | n + 1, k, h, x, hx => by
    unfold hcL at hx
    split at hx
    · rcases List.mem_cons.mp hx with w | w
      · rw [w]; exact h k (Nat.le_refl _) (by omega)
      · exact hcL_mem n (k + 1) (fun r h1 h2 => h r (by omega) (by omega)) x w
    · exact hcL_mem n (k + 1) (fun r h1 h2 => h r (by omega) (by omega)) x hx
theorem unseen_eq {n b : Int} {co ye sh gv lv row : Nat → Int} {c y : Int} (hb : b = 0 ∨ b = 1) (hl : ∀ r : Nat, r < n.toNat → 5 ≤ lv r ∧ lv r ≤ 59998) : cbQ (b = 1) co ye c y sh gv lv n.toNat 0 (0, 0, 0, 0) 0 row = if 12 < (raceF n co ye c y sh gv lv).2 ∨ (raceF n co ye c y sh gv lv).2 = 0 then -2000000000 else lp (stS (raceF n co ye c y sh gv lv).1 (hcL co ye c y sh lv n.toNat 0).length (fun j => (hcL co ye c y sh lv n.toNat 0).getD j 0) b) (2 ^ (hcL co ye c y sh lv n.toNat 0).length) 0 (-2000000000) := by
  have e2 : (raceF n co ye c y sh gv lv).2 = ((hcL co ye c y sh lv n.toNat 0).length : Int) := by
    unfold raceF
    rw [hcL_len]
    show (0 : Int) + _ = _
    omega
  have q := cbF_eq (g := b = 1) (dg := inferInstance) (co := co) (ye := ye) (sh := sh) (gv := gv) (lv := lv) (c := c) (y := y) n.toNat 0 (0, 0, 0, 0) 0 0 row [] (by omega) (fun i j _ h => absurd h (Nat.not_lt_zero _)) (List.Perm.refl _)
  have hm := hcL_mem (co := co) (ye := ye) (sh := sh) (lv := lv) (c := c) (y := y) (A := 5) (B := 59998) n.toNat 0 (fun r _ h => hl r (by omega))
  have ht : TI (raceF n co ye c y sh gv lv).1 ((List.range n.toNat).length : Int) := by
    rw [raceF_eq]
    exact t4S_TI (fun r hr => hl r (List.mem_range.mp hr))
  have er : (lp (raceS co ye c y sh gv lv) n.toNat 0 ((0, 0, 0, 0), 0)).1 = (raceF n co ye c y sh gv lv).1 := rfl
  rw [er] at q
  rw [e2]
  generalize hcL co ye c y sh lv n.toNat 0 = L at q hm ⊢
  generalize (raceF n co ye c y sh gv lv).1 = T at q ht ⊢
  rw [Nat.zero_add] at q
  by_cases z : 12 < L.length
  · rw [q.1 z, if_pos (by omega)]
  · obtain ⟨row2, s, p, e⟩ := q.2 (by omega)
    rw [e]
    by_cases w : L.length = 0
    · rw [if_pos w, if_pos (by omega)]
    · rw [if_neg w, if_neg (by omega)]
      rw [List.append_nil] at p
      have p2 := p.trans (List.reverse_perm L)
      have a := fuF_ext (g := b = 1) (dg := inferInstance) (t := T) (m := L.length) (row := row2) ht s (fun j hj => hm _ (p2.mem_iff.mp (List.mem_map.mpr ⟨j, List.mem_range.mpr hj, rfl⟩)))
      have eS : smF row2 L.length 0 = tsum L.length L := by
        have u := tsum_perm p2
        rw [rowL_len] at u
        rw [← u, smF_tsum]
        unfold rowL
        rw [show (fun i => row2 (0 + i)) = row2 from funext fun i => by rw [Nat.zero_add]]
      rw [eS] at a
      exact (a.iff (fun v => ⟨fun w => w.perm p2, fun w => w.perm p2.symm⟩)).eq (stS_ext ht hm (by omega) hb)
