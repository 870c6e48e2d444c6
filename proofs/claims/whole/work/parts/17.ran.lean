/-! ran: both -/
abbrev ranP (nr nc ns a b c : Int) : Prop := 0 ≤ a ∧ 0 ≤ b ∧ (0 ≤ a.tdiv 100 ∧ a.tdiv 100 < nr) ∧ (0 ≤ a.tmod 100 ∧ a.tmod 100 < nc) ∧ (0 ≤ b.tdiv 10 ∧ b.tdiv 10 ≤ 99) ∧ (10 ≤ c ∧ c ≤ 29999) ∧ (b.tmod 10 - 1 = -1 ∨ 0 ≤ b.tmod 10 - 1 ∧ b.tmod 10 - 1 < ns)
set_option maxRecDepth 100000 in
set_option maxHeartbeats 4000000 in
theorem c_X12_ran {K : KT} {dep : Nat} {h : Hp} {a b c : Int} (hd : 2 ≤ dep) (q0 : 0 ≤ h 57 16 ∧ h 57 16 ≤ 120) (q1 : inI a) (q2 : inI b) (q3 : inI c) : AM K yX12_ran cX12_ran 4 (some .int) dep [vR 57, vI a, vI b, vI c] h (some (vI (if ¬ (ranP (h 57 13) (h 57 15) (h 57 14) a b c) then -1 else if h 57 16 = 120 then -3 else h 57 16))) (if ¬ (ranP (h 57 13) (h 57 15) (h 57 14) a b c) then h else if h 57 16 = 120 then h else hset (hset (hset (hset (hset (hset h 66 (h 57 16).toNat (a.tdiv 100)) 67 (h 57 16).toNat (a.tmod 100)) 68 (h 57 16).toNat (b.tdiv 10)) 69 (h 57 16).toNat c) 70 (h 57 16).toNat (b.tmod 10 - 1)) 57 16 (h 57 16 + 1)) := by
  refine AM.of (own := RX12) (ls := [some (vR 57), some (vI a), some (vI b), some (vI c)]) rfl (by decide +kernel) (by exact Nat.le_of_ble_eq_true rfl) rfl (fun hO => ?_)
  have d1 : 0 ≤ a → 0 ≤ a.tdiv 100 ∧ a.tdiv 100 ≤ a := fun z => tdiv_le z (by decide)
  have d2 : 0 ≤ b → 0 ≤ b.tdiv 10 ∧ b.tdiv 10 ≤ b := fun z => tdiv_le z (by decide)
  have m1 := tmod_bounds (a := a) (M := 100) (by decide)
  have m2 := tmod_bounds (a := b) (M := 10) (by decide)
  have v1 : inI (a.tmod 100) := by constructor <;> omega
  have v2 : inI (b.tmod 10 - 1) := by constructor <;> omega
  refine AW.iload_n (pc' := 1) dX12_ran_0 rfl ?_
  refine AW.if_lt (tgt := 34) (pc' := 4) dX12_ran_1 (by first | assumption | omega | (constructor <;> omega) | (simp only [Int.toNat_natCast]; omega) | exact b2_in _) (fun c1 => ?_) (fun c1 => ?_)
  · refine AW.iconst (pc' := 35) dX12_ran_34 ?_
    refine AW.iret dX12_ran_35 ?_ ?_
    · first | (rw [if_pos (by omega)]; done) | (rw [if_neg (by omega), if_pos (by omega)]; done) | (rw [if_neg (by omega), if_neg (by omega)]; (try simp only [hset_app, Nat.reduceEqDiff, and_false, true_and, and_true, false_and, reduceIte]); refine congrArg (fun z : Int => (some (vI z) : Option AV)) ?_; omega)
    · first | (rw [if_pos (by omega)]; done) | (rw [if_neg (by omega), if_pos (by omega)]; done) | (rw [if_neg (by omega), if_neg (by omega)])
  · refine AW.iload_n (pc' := 5) dX12_ran_4 rfl ?_
    refine AW.if_lt (tgt := 34) (pc' := 8) dX12_ran_5 (by first | assumption | omega | (constructor <;> omega) | (simp only [Int.toNat_natCast]; omega) | exact b2_in _) (fun c5 => ?_) (fun c5 => ?_)
    · refine AW.iconst (pc' := 35) dX12_ran_34 ?_
      refine AW.iret dX12_ran_35 ?_ ?_
      · first | (rw [if_pos (by omega)]; done) | (rw [if_neg (by omega), if_pos (by omega)]; done) | (rw [if_neg (by omega), if_neg (by omega)]; (try simp only [hset_app, Nat.reduceEqDiff, and_false, true_and, and_true, false_and, reduceIte]); refine congrArg (fun z : Int => (some (vI z) : Option AV)) ?_; omega)
      · first | (rw [if_pos (by omega)]; done) | (rw [if_neg (by omega), if_pos (by omega)]; done) | (rw [if_neg (by omega), if_neg (by omega)])
    · refine AW.aload_n (pc' := 9) dX12_ran_8 rfl ?_
      refine AW.iload_n (pc' := 10) dX12_ran_9 rfl ?_
      refine AW.bipush (pc' := 12) dX12_ran_10 (by decide) ?_
      refine AW.idiv (pc' := 13) dX12_ran_12 (by first | assumption | omega | (constructor <;> omega) | (simp only [Int.toNat_natCast]; omega) | exact b2_in _) (by first | assumption | omega | (constructor <;> omega) | (simp only [Int.toNat_natCast]; omega) | exact b2_in _) (by first | assumption | omega | (constructor <;> omega) | (simp only [Int.toNat_natCast]; omega) | exact b2_in _) ?_
      refine AW.iload_n (pc' := 14) dX12_ran_13 rfl ?_
      refine AW.bipush (pc' := 16) dX12_ran_14 (by decide) ?_
      refine AW.irem (pc' := 17) dX12_ran_16 (by first | assumption | omega | (constructor <;> omega) | (simp only [Int.toNat_natCast]; omega) | exact b2_in _) (by first | assumption | omega | (constructor <;> omega) | (simp only [Int.toNat_natCast]; omega) | exact b2_in _) (by first | assumption | omega | (constructor <;> omega) | (simp only [Int.toNat_natCast]; omega) | exact b2_in _) ?_
      refine AW.iload_n (pc' := 18) dX12_ran_17 rfl ?_
      refine AW.bipush (pc' := 20) dX12_ran_18 (by decide) ?_
      refine AW.idiv (pc' := 21) dX12_ran_20 (by first | assumption | omega | (constructor <;> omega) | (simp only [Int.toNat_natCast]; omega) | exact b2_in _) (by first | assumption | omega | (constructor <;> omega) | (simp only [Int.toNat_natCast]; omega) | exact b2_in _) (by first | assumption | omega | (constructor <;> omega) | (simp only [Int.toNat_natCast]; omega) | exact b2_in _) ?_
      refine AW.iload_n (pc' := 22) dX12_ran_21 rfl ?_
      refine AW.iload_n (pc' := 23) dX12_ran_22 rfl ?_
      refine AW.bipush (pc' := 25) dX12_ran_23 (by decide) ?_
      refine AW.irem (pc' := 26) dX12_ran_25 (by first | assumption | omega | (constructor <;> omega) | (simp only [Int.toNat_natCast]; omega) | exact b2_in _) (by first | assumption | omega | (constructor <;> omega) | (simp only [Int.toNat_natCast]; omega) | exact b2_in _) (by first | assumption | omega | (constructor <;> omega) | (simp only [Int.toNat_natCast]; omega) | exact b2_in _) ?_
      refine AW.iconst (pc' := 27) dX12_ran_26 ?_
      refine AW.isub (pc' := 28) dX12_ran_27 ?_
      refine AW.invV5 (pc' := 31) dX12_ran_28 mlX12_141 mX12_mayRun ly_57 rfl (c_X12_mayRun (dep := dep - 1) (by first | assumption | omega | (constructor <;> omega) | (simp only [Int.toNat_natCast]; omega) | exact b2_in _) (by first | assumption | omega | (constructor <;> omega) | (simp only [Int.toNat_natCast]; omega) | exact b2_in _) (by first | assumption | omega | (constructor <;> omega) | (simp only [Int.toNat_natCast]; omega) | exact b2_in _) (by first | assumption | omega | (constructor <;> omega) | (simp only [Int.toNat_natCast]; omega) | exact b2_in _) (by first | assumption | omega | (constructor <;> omega) | (simp only [Int.toNat_natCast]; omega) | exact b2_in _) (by first | assumption | omega | (constructor <;> omega) | (simp only [Int.toNat_natCast]; omega) | exact b2_in _)) ?_
      refine AW.ifb_ne (tgt := 36) (pc' := 34) dX12_ran_31 (fun c31 => ?_) (fun c31 => ?_)
      · refine AW.aload_n (pc' := 37) dX12_ran_36 rfl ?_
        refine AW.getI (pc' := 40) dX12_ran_37 ly_57 fX12_128 rfl (fun r37 => ?_)
        refine AW.bipush (pc' := 42) dX12_ran_40 (by decide) ?_
        refine AW.icmp_ne (tgt := 48) (pc' := 45) dX12_ran_42 (by first | assumption | omega | (constructor <;> omega) | (simp only [Int.toNat_natCast]; omega) | exact b2_in _) (by first | assumption | omega | (constructor <;> omega) | (simp only [Int.toNat_natCast]; omega) | exact b2_in _) (fun c42 => ?_) (fun c42 => ?_)
        · refine AW.aload_n (pc' := 49) dX12_ran_48 rfl ?_
          refine AW.iload_n (pc' := 50) dX12_ran_49 rfl ?_
          refine AW.bipush (pc' := 52) dX12_ran_50 (by decide) ?_
          refine AW.idiv (pc' := 53) dX12_ran_52 (by first | assumption | omega | (constructor <;> omega) | (simp only [Int.toNat_natCast]; omega) | exact b2_in _) (by first | assumption | omega | (constructor <;> omega) | (simp only [Int.toNat_natCast]; omega) | exact b2_in _) (by first | assumption | omega | (constructor <;> omega) | (simp only [Int.toNat_natCast]; omega) | exact b2_in _) ?_
          refine AW.iload_n (pc' := 54) dX12_ran_53 rfl ?_
          refine AW.bipush (pc' := 56) dX12_ran_54 (by decide) ?_
          refine AW.irem (pc' := 57) dX12_ran_56 (by first | assumption | omega | (constructor <;> omega) | (simp only [Int.toNat_natCast]; omega) | exact b2_in _) (by first | assumption | omega | (constructor <;> omega) | (simp only [Int.toNat_natCast]; omega) | exact b2_in _) (by first | assumption | omega | (constructor <;> omega) | (simp only [Int.toNat_natCast]; omega) | exact b2_in _) ?_
          refine AW.iload_n (pc' := 58) dX12_ran_57 rfl ?_
          refine AW.bipush (pc' := 60) dX12_ran_58 (by decide) ?_
          refine AW.idiv (pc' := 61) dX12_ran_60 (by first | assumption | omega | (constructor <;> omega) | (simp only [Int.toNat_natCast]; omega) | exact b2_in _) (by first | assumption | omega | (constructor <;> omega) | (simp only [Int.toNat_natCast]; omega) | exact b2_in _) (by first | assumption | omega | (constructor <;> omega) | (simp only [Int.toNat_natCast]; omega) | exact b2_in _) ?_
          refine AW.iload_n (pc' := 62) dX12_ran_61 rfl ?_
          refine AW.iload_n (pc' := 63) dX12_ran_62 rfl ?_
          refine AW.bipush (pc' := 65) dX12_ran_63 (by decide) ?_
          refine AW.irem (pc' := 66) dX12_ran_65 (by first | assumption | omega | (constructor <;> omega) | (simp only [Int.toNat_natCast]; omega) | exact b2_in _) (by first | assumption | omega | (constructor <;> omega) | (simp only [Int.toNat_natCast]; omega) | exact b2_in _) (by first | assumption | omega | (constructor <;> omega) | (simp only [Int.toNat_natCast]; omega) | exact b2_in _) ?_
          refine AW.iconst (pc' := 67) dX12_ran_66 ?_
          refine AW.isub (pc' := 68) dX12_ran_67 ?_
          refine AW.invV5v (pc' := 71) dX12_ran_68 mlX12_145 mX12_comes ly_57 rfl (c_X12_comes (dep := dep - 1) (by first | assumption | omega | (constructor <;> omega) | (simp only [Int.toNat_natCast]; omega) | exact b2_in _) (by first | assumption | omega | (constructor <;> omega) | (simp only [Int.toNat_natCast]; omega) | exact b2_in _) (by first | assumption | omega | (constructor <;> omega) | (simp only [Int.toNat_natCast]; omega) | exact b2_in _) (by first | assumption | omega | (constructor <;> omega) | (simp only [Int.toNat_natCast]; omega) | exact b2_in _) (by first | assumption | omega | (constructor <;> omega) | (simp only [Int.toNat_natCast]; omega) | exact b2_in _) (by first | assumption | omega | (constructor <;> omega) | (simp only [Int.toNat_natCast]; omega) | exact b2_in _)) ?_
          refine AW.aload_n (pc' := 72) dX12_ran_71 rfl ?_
          refine AW.getI (pc' := 75) dX12_ran_72 ly_57 fX12_128 rfl (fun r72 => ?_)
          try simp only [hset_app, Nat.reduceEqDiff, false_and, and_false, true_and, and_true, reduceIte] at r72 ⊢
          refine AW.iconst (pc' := 76) dX12_ran_75 ?_
          refine AW.isub (pc' := 77) dX12_ran_76 ?_
          refine AW.iret dX12_ran_77 ?_ ?_
          · first | (rw [if_pos (by omega)]; done) | (rw [if_neg (by omega), if_pos (by omega)]; done) | (rw [if_neg (by omega), if_neg (by omega)]; (try simp only [hset_app, Nat.reduceEqDiff, and_false, true_and, and_true, false_and, reduceIte]); refine congrArg (fun z : Int => (some (vI z) : Option AV)) ?_; omega)
          · first | (rw [if_pos (by omega)]; done) | (rw [if_neg (by omega), if_pos (by omega)]; done) | (rw [if_neg (by omega), if_neg (by omega)])
        · refine AW.bipush (pc' := 47) dX12_ran_45 (by decide) ?_
          refine AW.iret dX12_ran_47 ?_ ?_
          · first | (rw [if_pos (by omega)]; done) | (rw [if_neg (by omega), if_pos (by omega)]; done) | (rw [if_neg (by omega), if_neg (by omega)]; (try simp only [hset_app, Nat.reduceEqDiff, and_false, true_and, and_true, false_and, reduceIte]); refine congrArg (fun z : Int => (some (vI z) : Option AV)) ?_; omega)
          · first | (rw [if_pos (by omega)]; done) | (rw [if_neg (by omega), if_pos (by omega)]; done) | (rw [if_neg (by omega), if_neg (by omega)])
      · refine AW.iconst (pc' := 35) dX12_ran_34 ?_
        refine AW.iret dX12_ran_35 ?_ ?_
        · first | (rw [if_pos (by omega)]; done) | (rw [if_neg (by omega), if_pos (by omega)]; done) | (rw [if_neg (by omega), if_neg (by omega)]; (try simp only [hset_app, Nat.reduceEqDiff, and_false, true_and, and_true, false_and, reduceIte]); refine congrArg (fun z : Int => (some (vI z) : Option AV)) ?_; omega)
        · first | (rw [if_pos (by omega)]; done) | (rw [if_neg (by omega), if_pos (by omega)]; done) | (rw [if_neg (by omega), if_neg (by omega)])
set_option maxRecDepth 100000 in
set_option maxHeartbeats 4000000 in
theorem c_X11_ran {K : KT} {dep : Nat} {h : Hp} {a b c : Int} (hd : 3 ≤ dep) (q0 : 0 ≤ h 12 10) (hQ : PO (h 12 10) (h 18)) (hQ2 : PO (h 12 10) (h 19)) (q3 : inI a) (q4 : inI b) (q5 : inI c) : AMp K yX11_ran cX11_ran 4 (some .int) dep [vR 0, vI a, vI b, vI c] h (some (vI (if ¬ (ranP (h 1 4) (h 10 1) (h 6 3) a b c) then -1 else if 120 ≤ h 12 10 then -3 else h 12 10))) (fun x => ((¬ (ranP (h 1 4) (h 10 1) (h 6 3) a b c) ∨ 120 ≤ h 12 10) ∧ x = h) ∨ ((ranP (h 1 4) (h 10 1) (h 6 3) a b c) ∧ h 12 10 < 120 ∧ CP h (a.tdiv 100) (a.tmod 100) (b.tdiv 10) c (b.tmod 10 - 1) x)) := by
  refine AM.of (own := RX11) (ls := [some (vR 0), some (vI a), some (vI b), some (vI c)]) rfl (by decide +kernel) (by exact Nat.le_of_ble_eq_true rfl) rfl (fun hO => ?_)
  have d1 : 0 ≤ a → 0 ≤ a.tdiv 100 ∧ a.tdiv 100 ≤ a := fun z => tdiv_le z (by decide)
  have d2 : 0 ≤ b → 0 ≤ b.tdiv 10 ∧ b.tdiv 10 ≤ b := fun z => tdiv_le z (by decide)
  have m1 := tmod_bounds (a := a) (M := 100) (by decide)
  have m2 := tmod_bounds (a := b) (M := 10) (by decide)
  have v1 : inI (a.tmod 100) := by constructor <;> omega
  have v2 : inI (b.tmod 10 - 1) := by constructor <;> omega
  refine AW.iload_n (pc' := 1) dX11_ran_0 rfl ?_
  refine AW.if_lt (tgt := 34) (pc' := 4) dX11_ran_1 (by first | assumption | omega | (constructor <;> omega) | (simp only [Int.toNat_natCast]; omega) | exact b2_in _) (fun c1 => ?_) (fun c1 => ?_)
  · refine AW.iconst (pc' := 35) dX11_ran_34 ?_
    refine AW.iret dX11_ran_35 ?_ ?_
    · first | (rw [if_pos (by omega)]; done) | (rw [if_neg (by omega), if_pos (by omega)]; done) | (rw [if_neg (by omega), if_neg (by omega)])
    · first | exact Or.inl ⟨by omega, rfl⟩ | exact Or.inr ⟨by omega, by omega, by assumption⟩
  · refine AW.iload_n (pc' := 5) dX11_ran_4 rfl ?_
    refine AW.if_lt (tgt := 34) (pc' := 8) dX11_ran_5 (by first | assumption | omega | (constructor <;> omega) | (simp only [Int.toNat_natCast]; omega) | exact b2_in _) (fun c5 => ?_) (fun c5 => ?_)
    · refine AW.iconst (pc' := 35) dX11_ran_34 ?_
      refine AW.iret dX11_ran_35 ?_ ?_
      · first | (rw [if_pos (by omega)]; done) | (rw [if_neg (by omega), if_pos (by omega)]; done) | (rw [if_neg (by omega), if_neg (by omega)])
      · first | exact Or.inl ⟨by omega, rfl⟩ | exact Or.inr ⟨by omega, by omega, by assumption⟩
    · refine AW.aload_n (pc' := 9) dX11_ran_8 rfl ?_
      refine AW.iload_n (pc' := 10) dX11_ran_9 rfl ?_
      refine AW.bipush (pc' := 12) dX11_ran_10 (by decide) ?_
      refine AW.idiv (pc' := 13) dX11_ran_12 (by first | assumption | omega | (constructor <;> omega) | (simp only [Int.toNat_natCast]; omega) | exact b2_in _) (by first | assumption | omega | (constructor <;> omega) | (simp only [Int.toNat_natCast]; omega) | exact b2_in _) (by first | assumption | omega | (constructor <;> omega) | (simp only [Int.toNat_natCast]; omega) | exact b2_in _) ?_
      refine AW.iload_n (pc' := 14) dX11_ran_13 rfl ?_
      refine AW.bipush (pc' := 16) dX11_ran_14 (by decide) ?_
      refine AW.irem (pc' := 17) dX11_ran_16 (by first | assumption | omega | (constructor <;> omega) | (simp only [Int.toNat_natCast]; omega) | exact b2_in _) (by first | assumption | omega | (constructor <;> omega) | (simp only [Int.toNat_natCast]; omega) | exact b2_in _) (by first | assumption | omega | (constructor <;> omega) | (simp only [Int.toNat_natCast]; omega) | exact b2_in _) ?_
      refine AW.iload_n (pc' := 18) dX11_ran_17 rfl ?_
      refine AW.bipush (pc' := 20) dX11_ran_18 (by decide) ?_
      refine AW.idiv (pc' := 21) dX11_ran_20 (by first | assumption | omega | (constructor <;> omega) | (simp only [Int.toNat_natCast]; omega) | exact b2_in _) (by first | assumption | omega | (constructor <;> omega) | (simp only [Int.toNat_natCast]; omega) | exact b2_in _) (by first | assumption | omega | (constructor <;> omega) | (simp only [Int.toNat_natCast]; omega) | exact b2_in _) ?_
      refine AW.iload_n (pc' := 22) dX11_ran_21 rfl ?_
      refine AW.iload_n (pc' := 23) dX11_ran_22 rfl ?_
      refine AW.bipush (pc' := 25) dX11_ran_23 (by decide) ?_
      refine AW.irem (pc' := 26) dX11_ran_25 (by first | assumption | omega | (constructor <;> omega) | (simp only [Int.toNat_natCast]; omega) | exact b2_in _) (by first | assumption | omega | (constructor <;> omega) | (simp only [Int.toNat_natCast]; omega) | exact b2_in _) (by first | assumption | omega | (constructor <;> omega) | (simp only [Int.toNat_natCast]; omega) | exact b2_in _) ?_
      refine AW.iconst (pc' := 27) dX11_ran_26 ?_
      refine AW.isub (pc' := 28) dX11_ran_27 ?_
      refine AW.invV5 (pc' := 31) dX11_ran_28 mlX11_104 mX11_isRun ly_0 rfl (c_X11_isRun (dep := dep - 1) (by first | assumption | omega | (constructor <;> omega) | (simp only [Int.toNat_natCast]; omega) | exact b2_in _) (by first | assumption | omega | (constructor <;> omega) | (simp only [Int.toNat_natCast]; omega) | exact b2_in _) (by first | assumption | omega | (constructor <;> omega) | (simp only [Int.toNat_natCast]; omega) | exact b2_in _) (by first | assumption | omega | (constructor <;> omega) | (simp only [Int.toNat_natCast]; omega) | exact b2_in _) (by first | assumption | omega | (constructor <;> omega) | (simp only [Int.toNat_natCast]; omega) | exact b2_in _) (by first | assumption | omega | (constructor <;> omega) | (simp only [Int.toNat_natCast]; omega) | exact b2_in _)) ?_
      refine AW.ifb_ne (tgt := 36) (pc' := 34) dX11_ran_31 (fun c31 => ?_) (fun c31 => ?_)
      · by_cases full : 120 ≤ h 12 10
        · skip
          refine AW.aload_n (pc' := 37) dX11_ran_36 rfl ?_
          refine AW.getR (pc' := 40) dX11_ran_37 ly_0 fX11_35 rfl ?_
          refine AW.iload_n (pc' := 41) dX11_ran_40 rfl ?_
          refine AW.bipush (pc' := 43) dX11_ran_41 (by decide) ?_
          refine AW.idiv (pc' := 44) dX11_ran_43 (by first | assumption | omega | (constructor <;> omega) | (simp only [Int.toNat_natCast]; omega) | exact b2_in _) (by first | assumption | omega | (constructor <;> omega) | (simp only [Int.toNat_natCast]; omega) | exact b2_in _) (by first | assumption | omega | (constructor <;> omega) | (simp only [Int.toNat_natCast]; omega) | exact b2_in _) ?_
          refine AW.iload_n (pc' := 45) dX11_ran_44 rfl ?_
          refine AW.bipush (pc' := 47) dX11_ran_45 (by decide) ?_
          refine AW.irem (pc' := 48) dX11_ran_47 (by first | assumption | omega | (constructor <;> omega) | (simp only [Int.toNat_natCast]; omega) | exact b2_in _) (by first | assumption | omega | (constructor <;> omega) | (simp only [Int.toNat_natCast]; omega) | exact b2_in _) (by first | assumption | omega | (constructor <;> omega) | (simp only [Int.toNat_natCast]; omega) | exact b2_in _) ?_
          refine AW.iload_n (pc' := 49) dX11_ran_48 rfl ?_
          refine AW.bipush (pc' := 51) dX11_ran_49 (by decide) ?_
          refine AW.idiv (pc' := 52) dX11_ran_51 (by first | assumption | omega | (constructor <;> omega) | (simp only [Int.toNat_natCast]; omega) | exact b2_in _) (by first | assumption | omega | (constructor <;> omega) | (simp only [Int.toNat_natCast]; omega) | exact b2_in _) (by first | assumption | omega | (constructor <;> omega) | (simp only [Int.toNat_natCast]; omega) | exact b2_in _) ?_
          refine AW.iload_n (pc' := 53) dX11_ran_52 rfl ?_
          refine AW.iload_n (pc' := 54) dX11_ran_53 rfl ?_
          refine AW.bipush (pc' := 56) dX11_ran_54 (by decide) ?_
          refine AW.irem (pc' := 57) dX11_ran_56 (by first | assumption | omega | (constructor <;> omega) | (simp only [Int.toNat_natCast]; omega) | exact b2_in _) (by first | assumption | omega | (constructor <;> omega) | (simp only [Int.toNat_natCast]; omega) | exact b2_in _) (by first | assumption | omega | (constructor <;> omega) | (simp only [Int.toNat_natCast]; omega) | exact b2_in _) ?_
          refine AW.iconst (pc' := 58) dX11_ran_57 ?_
          refine AW.isub (pc' := 59) dX11_ran_58 ?_
          refine AW.invV5 (pc' := 62) dX11_ran_59 mlX11_108 mX7_come ly_12 rfl (c_X7_comeFull (dep := dep - 1) (by first | assumption | omega | (constructor <;> omega) | (simp only [Int.toNat_natCast]; omega) | exact b2_in _) (by first | assumption | omega | (constructor <;> omega) | (simp only [Int.toNat_natCast]; omega) | exact b2_in _) (by first | assumption | omega | (constructor <;> omega) | (simp only [Int.toNat_natCast]; omega) | exact b2_in _) (by first | assumption | omega | (constructor <;> omega) | (simp only [Int.toNat_natCast]; omega) | exact b2_in _) (by first | assumption | omega | (constructor <;> omega) | (simp only [Int.toNat_natCast]; omega) | exact b2_in _) (by first | assumption | omega | (constructor <;> omega) | (simp only [Int.toNat_natCast]; omega) | exact b2_in _)) ?_
          refine AW.iret dX11_ran_62 ?_ ?_
          · first | (rw [if_pos (by omega)]; done) | (rw [if_neg (by omega), if_pos (by omega)]; done) | (rw [if_neg (by omega), if_neg (by omega)])
          · first | exact Or.inl ⟨by omega, rfl⟩ | exact Or.inr ⟨by omega, by omega, by assumption⟩
        · skip
          refine AW.aload_n (pc' := 37) dX11_ran_36 rfl ?_
          refine AW.getR (pc' := 40) dX11_ran_37 ly_0 fX11_35 rfl ?_
          refine AW.iload_n (pc' := 41) dX11_ran_40 rfl ?_
          refine AW.bipush (pc' := 43) dX11_ran_41 (by decide) ?_
          refine AW.idiv (pc' := 44) dX11_ran_43 (by first | assumption | omega | (constructor <;> omega) | (simp only [Int.toNat_natCast]; omega) | exact b2_in _) (by first | assumption | omega | (constructor <;> omega) | (simp only [Int.toNat_natCast]; omega) | exact b2_in _) (by first | assumption | omega | (constructor <;> omega) | (simp only [Int.toNat_natCast]; omega) | exact b2_in _) ?_
          refine AW.iload_n (pc' := 45) dX11_ran_44 rfl ?_
          refine AW.bipush (pc' := 47) dX11_ran_45 (by decide) ?_
          refine AW.irem (pc' := 48) dX11_ran_47 (by first | assumption | omega | (constructor <;> omega) | (simp only [Int.toNat_natCast]; omega) | exact b2_in _) (by first | assumption | omega | (constructor <;> omega) | (simp only [Int.toNat_natCast]; omega) | exact b2_in _) (by first | assumption | omega | (constructor <;> omega) | (simp only [Int.toNat_natCast]; omega) | exact b2_in _) ?_
          refine AW.iload_n (pc' := 49) dX11_ran_48 rfl ?_
          refine AW.bipush (pc' := 51) dX11_ran_49 (by decide) ?_
          refine AW.idiv (pc' := 52) dX11_ran_51 (by first | assumption | omega | (constructor <;> omega) | (simp only [Int.toNat_natCast]; omega) | exact b2_in _) (by first | assumption | omega | (constructor <;> omega) | (simp only [Int.toNat_natCast]; omega) | exact b2_in _) (by first | assumption | omega | (constructor <;> omega) | (simp only [Int.toNat_natCast]; omega) | exact b2_in _) ?_
          refine AW.iload_n (pc' := 53) dX11_ran_52 rfl ?_
          refine AW.iload_n (pc' := 54) dX11_ran_53 rfl ?_
          refine AW.bipush (pc' := 56) dX11_ran_54 (by decide) ?_
          refine AW.irem (pc' := 57) dX11_ran_56 (by first | assumption | omega | (constructor <;> omega) | (simp only [Int.toNat_natCast]; omega) | exact b2_in _) (by first | assumption | omega | (constructor <;> omega) | (simp only [Int.toNat_natCast]; omega) | exact b2_in _) (by first | assumption | omega | (constructor <;> omega) | (simp only [Int.toNat_natCast]; omega) | exact b2_in _) ?_
          refine AW.iconst (pc' := 58) dX11_ran_57 ?_
          refine AW.isub (pc' := 59) dX11_ran_58 ?_
          refine AW.invQ5 (pc' := 62) dX11_ran_59 mlX11_108 mX7_come ly_12 rfl (c_X7_come (dep := dep - 1) (by omega) (by omega) hQ hQ2 (by first | assumption | omega | (constructor <;> omega) | (simp only [Int.toNat_natCast]; omega) | exact b2_in _) (by first | assumption | omega | (constructor <;> omega) | (simp only [Int.toNat_natCast]; omega) | exact b2_in _) (by first | assumption | omega | (constructor <;> omega) | (simp only [Int.toNat_natCast]; omega) | exact b2_in _) (by first | assumption | omega | (constructor <;> omega) | (simp only [Int.toNat_natCast]; omega) | exact b2_in _) (by first | assumption | omega | (constructor <;> omega) | (simp only [Int.toNat_natCast]; omega) | exact b2_in _)) (fun h59 s59 => ?_)
          refine AW.iret dX11_ran_62 ?_ ?_
          · first | (rw [if_pos (by omega)]; done) | (rw [if_neg (by omega), if_pos (by omega)]; done) | (rw [if_neg (by omega), if_neg (by omega)])
          · first | exact Or.inl ⟨by omega, rfl⟩ | exact Or.inr ⟨by omega, by omega, by assumption⟩
      · refine AW.iconst (pc' := 35) dX11_ran_34 ?_
        refine AW.iret dX11_ran_35 ?_ ?_
        · first | (rw [if_pos (by omega)]; done) | (rw [if_neg (by omega), if_pos (by omega)]; done) | (rw [if_neg (by omega), if_neg (by omega)])
        · first | exact Or.inl ⟨by omega, rfl⟩ | exact Or.inr ⟨by omega, by omega, by assumption⟩
