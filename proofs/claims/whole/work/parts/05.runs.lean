/-! runners, runs: what is worked out of one row -/
set_option maxRecDepth 100000 in
set_option maxHeartbeats 4000000 in
theorem c_X6_formThen {K : KT} {dep : Nat} {h : Hp} {a b : Int} (hd : 1 ≤ dep) (hI : IXa h) (q0 : 0 ≤ a ∧ a < h 1 4) (q1 : 0 ≤ b ∧ b ≤ 99) : AM K yX6_formThen cX6_formThen 3 (some .int) dep [vR 1, vI a, vI b] h (some (vI (fThen (h 2) (h 3) a.toNat b))) (h) := by
  refine AM.of (own := RX6) (ls := [some (vR 1), some (vI a), some (vI b)]) rfl (by decide +kernel) (by exact Nat.le_of_ble_eq_true rfl) rfl (fun hO => ?_)
  obtain ⟨hR, -⟩ := hI
  have q3 := fThen_in hR (r := a.toNat) (by omega) q1.1 q1.2
  obtain ⟨g1, g2, g3, g4⟩ := q3
  have g5 := hR.2.2 a.toNat (by omega)
  have g6 := hR.1
  have g7 := hR.2.1
  refine AW.sipush (pc' := 3) dX6_formThen_0 (by decide) ?_
  refine AW.aload_n (pc' := 4) dX6_formThen_3 rfl ?_
  refine AW.getR (pc' := 7) dX6_formThen_4 ly_1 fX6_9 rfl ?_
  refine AW.iload_n (pc' := 8) dX6_formThen_7 rfl ?_
  first | refine AW.ialdN (pc' := 9) dX6_formThen_8 ly_2 (by first | assumption | omega | (constructor <;> omega) | (simp only [Int.toNat_natCast]; omega) | exact b2_in _) (by decide) (fun r8 => ?_) | refine AW.iald (pc' := 9) dX6_formThen_8 ly_2 (by first | assumption | omega | (constructor <;> omega) | (simp only [Int.toNat_natCast]; omega) | exact b2_in _) (by first | assumption | omega | (constructor <;> omega) | (simp only [Int.toNat_natCast]; omega) | exact b2_in _) (by decide) (fun r8 => ?_)
  refine AW.aload_n (pc' := 10) dX6_formThen_9 rfl ?_
  refine AW.getR (pc' := 13) dX6_formThen_10 ly_1 fX6_15 rfl ?_
  refine AW.iload_n (pc' := 14) dX6_formThen_13 rfl ?_
  first | refine AW.ialdN (pc' := 15) dX6_formThen_14 ly_3 (by first | assumption | omega | (constructor <;> omega) | (simp only [Int.toNat_natCast]; omega) | exact b2_in _) (by decide) (fun r14 => ?_) | refine AW.iald (pc' := 15) dX6_formThen_14 ly_3 (by first | assumption | omega | (constructor <;> omega) | (simp only [Int.toNat_natCast]; omega) | exact b2_in _) (by first | assumption | omega | (constructor <;> omega) | (simp only [Int.toNat_natCast]; omega) | exact b2_in _) (by decide) (fun r14 => ?_)
  refine AW.iload_n (pc' := 16) dX6_formThen_15 rfl ?_
  refine AW.imul (pc' := 17) dX6_formThen_16 ?_
  refine AW.iadd (pc' := 18) dX6_formThen_17 ?_
  refine AW.mmax (pc' := 21) dX6_formThen_18 mlX6_28 (by first | assumption | omega | (constructor <;> omega) | (simp only [Int.toNat_natCast]; omega) | exact b2_in _) (by first | assumption | omega | (constructor <;> omega) | (simp only [Int.toNat_natCast]; omega) | exact b2_in _) ?_
  refine AW.iret dX6_formThen_21 ?_ ?_
  · refine congrArg (fun z : Int => (some (vI z) : Option AV)) ?_
    unfold fThen
    (repeat' split) <;> omega
  · rfl
set_option maxRecDepth 100000 in
set_option maxHeartbeats 4000000 in
theorem c_X12_formThen {K : KT} {dep : Nat} {h : Hp} {a b : Int}  (hI : IMa h) (q0 : 0 ≤ a ∧ a < h 57 13) (q1 : 0 ≤ b ∧ b ≤ 99) : AM K yX12_formThen cX12_formThen 4 (some .int) dep [vR 57, vI a, vI b] h (some (vI (fThen (h 58) (h 59) a.toNat b))) (h) := by
  refine AM.of (own := RX12) (ls := [some (vR 57), some (vI a), some (vI b), none]) rfl (by decide +kernel) (by exact Nat.le_of_ble_eq_true rfl) rfl (fun hO => ?_)
  obtain ⟨hR, -⟩ := hI
  have q3 := fThen_in hR (r := a.toNat) (by omega) q1.1 q1.2
  obtain ⟨g1, g2, g3, g4⟩ := q3
  have g5 := hR.2.2 a.toNat (by omega)
  have g6 := hR.1
  have g7 := hR.2.1
  refine AW.aload_n (pc' := 1) dX12_formThen_0 rfl ?_
  refine AW.getR (pc' := 4) dX12_formThen_1 ly_57 fX12_7 rfl ?_
  refine AW.iload_n (pc' := 5) dX12_formThen_4 rfl ?_
  first | refine AW.ialdN (pc' := 6) dX12_formThen_5 ly_58 (by first | assumption | omega | (constructor <;> omega) | (simp only [Int.toNat_natCast]; omega) | exact b2_in _) (by decide) (fun r5 => ?_) | refine AW.iald (pc' := 6) dX12_formThen_5 ly_58 (by first | assumption | omega | (constructor <;> omega) | (simp only [Int.toNat_natCast]; omega) | exact b2_in _) (by first | assumption | omega | (constructor <;> omega) | (simp only [Int.toNat_natCast]; omega) | exact b2_in _) (by decide) (fun r5 => ?_)
  refine AW.aload_n (pc' := 7) dX12_formThen_6 rfl ?_
  refine AW.getR (pc' := 10) dX12_formThen_7 ly_57 fX12_13 rfl ?_
  refine AW.iload_n (pc' := 11) dX12_formThen_10 rfl ?_
  first | refine AW.ialdN (pc' := 12) dX12_formThen_11 ly_59 (by first | assumption | omega | (constructor <;> omega) | (simp only [Int.toNat_natCast]; omega) | exact b2_in _) (by decide) (fun r11 => ?_) | refine AW.iald (pc' := 12) dX12_formThen_11 ly_59 (by first | assumption | omega | (constructor <;> omega) | (simp only [Int.toNat_natCast]; omega) | exact b2_in _) (by first | assumption | omega | (constructor <;> omega) | (simp only [Int.toNat_natCast]; omega) | exact b2_in _) (by decide) (fun r11 => ?_)
  refine AW.iload_n (pc' := 13) dX12_formThen_12 rfl ?_
  refine AW.imul (pc' := 14) dX12_formThen_13 ?_
  refine AW.iadd (pc' := 15) dX12_formThen_14 ?_
  refine AW.istore3n (pc' := 16) dX12_formThen_15 (by decide) rfl ?_
  refine AW.iload_n (pc' := 17) dX12_formThen_16 rfl ?_
  refine AW.sipush (pc' := 20) dX12_formThen_17 (by decide) ?_
  refine AW.icmp_ge (tgt := 29) (pc' := 23) dX12_formThen_20 (by first | assumption | omega | (constructor <;> omega) | (simp only [Int.toNat_natCast]; omega) | exact b2_in _) (by first | assumption | omega | (constructor <;> omega) | (simp only [Int.toNat_natCast]; omega) | exact b2_in _) (fun c20 => ?_) (fun c20 => ?_)
  · refine AW.iload_n (pc' := 30) dX12_formThen_29 rfl ?_
    refine AW.iret dX12_formThen_30 ?_ ?_
    · refine congrArg (fun z : Int => (some (vI z) : Option AV)) ?_
      unfold fThen
      (repeat' split) <;> omega
    · rfl
  · refine AW.sipush (pc' := 26) dX12_formThen_23 (by decide) ?_
    refine AW.goto (tgt := 30) dX12_formThen_26 ?_
    refine AW.iret dX12_formThen_30 ?_ ?_
    · refine congrArg (fun z : Int => (some (vI z) : Option AV)) ?_
      unfold fThen
      (repeat' split) <;> omega
    · rfl
set_option maxRecDepth 100000 in
set_option maxHeartbeats 4000000 in
theorem c_X7_level {K : KT} {dep : Nat} {h : Hp} {a : Int} (hd : 1 ≤ dep) (hI : IXa h) (q0 : 0 ≤ a ∧ a < h 12 10) : AM K yX7_level cX7_level 2 (some .int) dep [vR 12, vI a] h (some (vI (lvl (h 16) (h 11) (h 14) a.toNat))) (h) := by
  refine AM.of (own := RX7) (ls := [some (vR 12), some (vI a)]) rfl (by decide +kernel) (by exact Nat.le_of_ble_eq_true rfl) rfl (fun hO => ?_)
  obtain ⟨hR, hS, hC, hU⟩ := hI
  obtain ⟨g1, g2, g3, g4⟩ := lvl_in hU hC (r := a.toNat) (by omega)
  have g5 := hU.2.2 a.toNat (by omega)
  have g6 := hU.2.1
  have g7 := hC.2.1
  refine AW.aload_n (pc' := 1) dX7_level_0 rfl ?_
  refine AW.getR (pc' := 4) dX7_level_1 ly_12 fX7_21 rfl ?_
  refine AW.iload_n (pc' := 5) dX7_level_4 rfl ?_
  first | refine AW.ialdN (pc' := 6) dX7_level_5 ly_16 (by first | assumption | omega | (constructor <;> omega) | (simp only [Int.toNat_natCast]; omega) | exact b2_in _) (by decide) (fun r5 => ?_) | refine AW.iald (pc' := 6) dX7_level_5 ly_16 (by first | assumption | omega | (constructor <;> omega) | (simp only [Int.toNat_natCast]; omega) | exact b2_in _) (by first | assumption | omega | (constructor <;> omega) | (simp only [Int.toNat_natCast]; omega) | exact b2_in _) (by decide) (fun r5 => ?_)
  refine AW.i2l (pc' := 7) dX7_level_6 (by first | assumption | omega | (constructor <;> omega) | (simp only [Int.toNat_natCast]; omega) | exact b2_in _) ?_
  refine AW.ldc2 (v := 1000) (pc' := 10) dX7_level_7 klX7_68 ?_
  refine AW.lmul (pc' := 11) dX7_level_10 ?_
  refine AW.aload_n (pc' := 12) dX7_level_11 rfl ?_
  refine AW.getR (pc' := 15) dX7_level_12 ly_12 fX7_40 rfl ?_
  refine AW.getR (pc' := 18) dX7_level_15 ly_10 fX7_70 rfl ?_
  refine AW.aload_n (pc' := 19) dX7_level_18 rfl ?_
  refine AW.getR (pc' := 22) dX7_level_19 ly_12 fX7_15 rfl ?_
  refine AW.iload_n (pc' := 23) dX7_level_22 rfl ?_
  first | refine AW.ialdN (pc' := 24) dX7_level_23 ly_14 (by first | assumption | omega | (constructor <;> omega) | (simp only [Int.toNat_natCast]; omega) | exact b2_in _) (by decide) (fun r23 => ?_) | refine AW.iald (pc' := 24) dX7_level_23 ly_14 (by first | assumption | omega | (constructor <;> omega) | (simp only [Int.toNat_natCast]; omega) | exact b2_in _) (by first | assumption | omega | (constructor <;> omega) | (simp only [Int.toNat_natCast]; omega) | exact b2_in _) (by decide) (fun r23 => ?_)
  first | refine AW.ialdN (pc' := 25) dX7_level_24 ly_11 (by first | assumption | omega | (constructor <;> omega) | (simp only [Int.toNat_natCast]; omega) | exact b2_in _) (by decide) (fun r24 => ?_) | refine AW.iald (pc' := 25) dX7_level_24 ly_11 (by first | assumption | omega | (constructor <;> omega) | (simp only [Int.toNat_natCast]; omega) | exact b2_in _) (by first | assumption | omega | (constructor <;> omega) | (simp only [Int.toNat_natCast]; omega) | exact b2_in _) (by decide) (fun r24 => ?_)
  refine AW.i2l (pc' := 26) dX7_level_25 (by first | assumption | omega | (constructor <;> omega) | (simp only [Int.toNat_natCast]; omega) | exact b2_in _) ?_
  refine AW.invN2 (pc' := 29) dX7_level_26 (by decide +kernel) mX11_cut (c_X11_cut (dep := dep - 1) (by first | assumption | omega | (constructor <;> omega) | (simp only [Int.toNat_natCast]; omega) | exact b2_in _) (by first | assumption | omega | (constructor <;> omega) | (simp only [Int.toNat_natCast]; omega) | exact b2_in _)) ?_
  refine AW.iret dX7_level_29 ?_ ?_
  · refine congrArg (fun z : Int => (some (vI z) : Option AV)) ?_
    unfold lvl
    rw [if_neg (by omega)]
  · rfl
set_option maxRecDepth 100000 in
set_option maxHeartbeats 4000000 in
theorem c_X12_level {K : KT} {dep : Nat} {h : Hp} {a : Int}  (hI : IMa h) (q0 : 0 ≤ a ∧ a < h 57 16) : AM K yX12_level cX12_level 2 (some .int) dep [vR 57, vI a] h (some (vI (lvl (h 69) (h 65) (h 67) a.toNat))) (h) := by
  refine AM.of (own := RX12) (ls := [some (vR 57), some (vI a)]) rfl (by decide +kernel) (by exact Nat.le_of_ble_eq_true rfl) rfl (fun hO => ?_)
  obtain ⟨hR, hS, hC, hU⟩ := hI
  obtain ⟨g1, g2, g3, g4⟩ := lvl_in hU hC (r := a.toNat) (by omega)
  have g5 := hU.2.2 a.toNat (by omega)
  have g6 := hU.2.1
  have g7 := hC.2.1
  refine AW.aload_n (pc' := 1) dX12_level_0 rfl ?_
  refine AW.getR (pc' := 4) dX12_level_1 ly_57 fX12_43 rfl ?_
  refine AW.iload_n (pc' := 5) dX12_level_4 rfl ?_
  first | refine AW.ialdN (pc' := 6) dX12_level_5 ly_69 (by first | assumption | omega | (constructor <;> omega) | (simp only [Int.toNat_natCast]; omega) | exact b2_in _) (by decide) (fun r5 => ?_) | refine AW.iald (pc' := 6) dX12_level_5 ly_69 (by first | assumption | omega | (constructor <;> omega) | (simp only [Int.toNat_natCast]; omega) | exact b2_in _) (by first | assumption | omega | (constructor <;> omega) | (simp only [Int.toNat_natCast]; omega) | exact b2_in _) (by decide) (fun r5 => ?_)
  refine AW.sipush (pc' := 9) dX12_level_6 (by decide) ?_
  refine AW.imul (pc' := 10) dX12_level_9 ?_
  refine AW.aload_n (pc' := 11) dX12_level_10 rfl ?_
  refine AW.getR (pc' := 14) dX12_level_11 ly_57 fX12_31 rfl ?_
  refine AW.aload_n (pc' := 15) dX12_level_14 rfl ?_
  refine AW.getR (pc' := 18) dX12_level_15 ly_57 fX12_37 rfl ?_
  refine AW.iload_n (pc' := 19) dX12_level_18 rfl ?_
  first | refine AW.ialdN (pc' := 20) dX12_level_19 ly_67 (by first | assumption | omega | (constructor <;> omega) | (simp only [Int.toNat_natCast]; omega) | exact b2_in _) (by decide) (fun r19 => ?_) | refine AW.iald (pc' := 20) dX12_level_19 ly_67 (by first | assumption | omega | (constructor <;> omega) | (simp only [Int.toNat_natCast]; omega) | exact b2_in _) (by first | assumption | omega | (constructor <;> omega) | (simp only [Int.toNat_natCast]; omega) | exact b2_in _) (by decide) (fun r19 => ?_)
  first | refine AW.ialdN (pc' := 21) dX12_level_20 ly_65 (by first | assumption | omega | (constructor <;> omega) | (simp only [Int.toNat_natCast]; omega) | exact b2_in _) (by decide) (fun r20 => ?_) | refine AW.iald (pc' := 21) dX12_level_20 ly_65 (by first | assumption | omega | (constructor <;> omega) | (simp only [Int.toNat_natCast]; omega) | exact b2_in _) (by first | assumption | omega | (constructor <;> omega) | (simp only [Int.toNat_natCast]; omega) | exact b2_in _) (by decide) (fun r20 => ?_)
  refine AW.idiv (pc' := 22) dX12_level_21 (by first | assumption | omega | (constructor <;> omega) | (simp only [Int.toNat_natCast]; omega) | exact b2_in _) (by first | assumption | omega | (constructor <;> omega) | (simp only [Int.toNat_natCast]; omega) | exact b2_in _) (by first | assumption | omega | (constructor <;> omega) | (simp only [Int.toNat_natCast]; omega) | exact b2_in _) ?_
  refine AW.iret dX12_level_22 ?_ ?_
  all_goals first | rfl | exact congrArg (fun z : Int => (some (vI z) : Option AV)) (b2_t (by omega)) | exact congrArg (fun z : Int => (some (vI z) : Option AV)) (b2_f (by omega)) | ((repeat' split) <;> first | rfl | omega)
set_option maxRecDepth 100000 in
set_option maxHeartbeats 4000000 in
theorem c_X7_oldMinutes {K : KT} {dep : Nat} {h : Hp} {a : Int} (hd : 2 ≤ dep) (hI : IXa h) (q0 : 0 ≤ a ∧ a < h 12 10) : AM K yX7_oldMinutes cX7_oldMinutes 3 (some .int) dep [vR 12, vI a] h (some (vI (oldM (h 16) (h 17) (h 8) a.toNat))) (h) := by
  refine AM.of (own := RX7) (ls := [some (vR 12), some (vI a), none]) rfl (by decide +kernel) (by exact Nat.le_of_ble_eq_true rfl) rfl (fun hO => ?_)
  obtain ⟨hR, hS, hC, hU⟩ := hI
  obtain ⟨g1, g2, g3⟩ := oldM_in hU hS (r := a.toNat) (by omega)
  have g5 := hU.2.2 a.toNat (by omega)
  have g6 := hU.2.1
  have g7 := hS.2.1
  refine AW.aload_n (pc' := 1) dX7_oldMinutes_0 rfl ?_
  refine AW.iload_n (pc' := 2) dX7_oldMinutes_1 rfl ?_
  refine AW.invV1 (pc' := 5) dX7_oldMinutes_2 mlX7_62 mX7_isSeen ly_12 rfl (c_X7_isSeen (dep := dep - 1) (by first | assumption | omega | (constructor <;> omega) | (simp only [Int.toNat_natCast]; omega) | exact b2_in _) (by first | assumption | omega | (constructor <;> omega) | (simp only [Int.toNat_natCast]; omega) | exact b2_in _)) ?_
  refine AW.ifb_eq (tgt := 25) (pc' := 8) dX7_oldMinutes_5 (fun c5 => ?_) (fun c5 => ?_)
  · have g8 : h 17 a.toNat < 0 := by omega
    refine AW.iconst (pc' := 26) dX7_oldMinutes_25 ?_
    refine AW.istore2n (pc' := 27) dX7_oldMinutes_26 (by decide) rfl ?_
    refine AW.aload_n (pc' := 28) dX7_oldMinutes_27 rfl ?_
    refine AW.getR (pc' := 31) dX7_oldMinutes_28 ly_12 fX7_21 rfl ?_
    refine AW.iload_n (pc' := 32) dX7_oldMinutes_31 rfl ?_
    first | refine AW.ialdN (pc' := 33) dX7_oldMinutes_32 ly_16 (by first | assumption | omega | (constructor <;> omega) | (simp only [Int.toNat_natCast]; omega) | exact b2_in _) (by decide) (fun r32 => ?_) | refine AW.iald (pc' := 33) dX7_oldMinutes_32 ly_16 (by first | assumption | omega | (constructor <;> omega) | (simp only [Int.toNat_natCast]; omega) | exact b2_in _) (by first | assumption | omega | (constructor <;> omega) | (simp only [Int.toNat_natCast]; omega) | exact b2_in _) (by decide) (fun r32 => ?_)
    refine AW.i2l (pc' := 34) dX7_oldMinutes_33 (by first | assumption | omega | (constructor <;> omega) | (simp only [Int.toNat_natCast]; omega) | exact b2_in _) ?_
    refine AW.ldc2 (v := 1000) (pc' := 37) dX7_oldMinutes_34 klX7_68 ?_
    refine AW.lmul (pc' := 38) dX7_oldMinutes_37 ?_
    refine AW.sipush (pc' := 41) dX7_oldMinutes_38 (by decide) ?_
    refine AW.iload_n (pc' := 42) dX7_oldMinutes_41 rfl ?_
    refine AW.isub (pc' := 43) dX7_oldMinutes_42 ?_
    refine AW.i2l (pc' := 44) dX7_oldMinutes_43 (by first | assumption | omega | (constructor <;> omega) | (simp only [Int.toNat_natCast]; omega) | exact b2_in _) ?_
    refine AW.invN2 (pc' := 47) dX7_oldMinutes_44 (by decide +kernel) mX11_cut (c_X11_cut (dep := dep - 1) (by first | assumption | omega | (constructor <;> omega) | (simp only [Int.toNat_natCast]; omega) | exact b2_in _) (by first | assumption | omega | (constructor <;> omega) | (simp only [Int.toNat_natCast]; omega) | exact b2_in _)) ?_
    refine AW.iret dX7_oldMinutes_47 ?_ ?_
    · refine congrArg (fun z : Int => (some (vI z) : Option AV)) ?_
      unfold oldM
      (repeat' split) <;> first | omega | rfl | (rw [Int.sub_zero, Int.mul_tdiv_cancel _ (by decide)])
    · rfl
  · have g8 := g3 (by omega)
    refine AW.aload_n (pc' := 9) dX7_oldMinutes_8 rfl ?_
    refine AW.getR (pc' := 12) dX7_oldMinutes_9 ly_12 fX7_36 rfl ?_
    refine AW.getR (pc' := 15) dX7_oldMinutes_12 ly_6 fX7_65 rfl ?_
    refine AW.aload_n (pc' := 16) dX7_oldMinutes_15 rfl ?_
    refine AW.getR (pc' := 19) dX7_oldMinutes_16 ly_12 fX7_24 rfl ?_
    refine AW.iload_n (pc' := 20) dX7_oldMinutes_19 rfl ?_
    first | refine AW.ialdN (pc' := 21) dX7_oldMinutes_20 ly_17 (by first | assumption | omega | (constructor <;> omega) | (simp only [Int.toNat_natCast]; omega) | exact b2_in _) (by decide) (fun r20 => ?_) | refine AW.iald (pc' := 21) dX7_oldMinutes_20 ly_17 (by first | assumption | omega | (constructor <;> omega) | (simp only [Int.toNat_natCast]; omega) | exact b2_in _) (by first | assumption | omega | (constructor <;> omega) | (simp only [Int.toNat_natCast]; omega) | exact b2_in _) (by decide) (fun r20 => ?_)
    first | refine AW.ialdN (pc' := 22) dX7_oldMinutes_21 ly_8 (by first | assumption | omega | (constructor <;> omega) | (simp only [Int.toNat_natCast]; omega) | exact b2_in _) (by decide) (fun r21 => ?_) | refine AW.iald (pc' := 22) dX7_oldMinutes_21 ly_8 (by first | assumption | omega | (constructor <;> omega) | (simp only [Int.toNat_natCast]; omega) | exact b2_in _) (by first | assumption | omega | (constructor <;> omega) | (simp only [Int.toNat_natCast]; omega) | exact b2_in _) (by decide) (fun r21 => ?_)
    refine AW.goto (tgt := 26) dX7_oldMinutes_22 ?_
    refine AW.istore2n (pc' := 27) dX7_oldMinutes_26 (by decide) rfl ?_
    refine AW.aload_n (pc' := 28) dX7_oldMinutes_27 rfl ?_
    refine AW.getR (pc' := 31) dX7_oldMinutes_28 ly_12 fX7_21 rfl ?_
    refine AW.iload_n (pc' := 32) dX7_oldMinutes_31 rfl ?_
    first | refine AW.ialdN (pc' := 33) dX7_oldMinutes_32 ly_16 (by first | assumption | omega | (constructor <;> omega) | (simp only [Int.toNat_natCast]; omega) | exact b2_in _) (by decide) (fun r32 => ?_) | refine AW.iald (pc' := 33) dX7_oldMinutes_32 ly_16 (by first | assumption | omega | (constructor <;> omega) | (simp only [Int.toNat_natCast]; omega) | exact b2_in _) (by first | assumption | omega | (constructor <;> omega) | (simp only [Int.toNat_natCast]; omega) | exact b2_in _) (by decide) (fun r32 => ?_)
    refine AW.i2l (pc' := 34) dX7_oldMinutes_33 (by first | assumption | omega | (constructor <;> omega) | (simp only [Int.toNat_natCast]; omega) | exact b2_in _) ?_
    refine AW.ldc2 (v := 1000) (pc' := 37) dX7_oldMinutes_34 klX7_68 ?_
    refine AW.lmul (pc' := 38) dX7_oldMinutes_37 ?_
    refine AW.sipush (pc' := 41) dX7_oldMinutes_38 (by decide) ?_
    refine AW.iload_n (pc' := 42) dX7_oldMinutes_41 rfl ?_
    refine AW.isub (pc' := 43) dX7_oldMinutes_42 ?_
    refine AW.i2l (pc' := 44) dX7_oldMinutes_43 (by first | assumption | omega | (constructor <;> omega) | (simp only [Int.toNat_natCast]; omega) | exact b2_in _) ?_
    refine AW.invN2 (pc' := 47) dX7_oldMinutes_44 (by decide +kernel) mX11_cut (c_X11_cut (dep := dep - 1) (by first | assumption | omega | (constructor <;> omega) | (simp only [Int.toNat_natCast]; omega) | exact b2_in _) (by first | assumption | omega | (constructor <;> omega) | (simp only [Int.toNat_natCast]; omega) | exact b2_in _)) ?_
    refine AW.iret dX7_oldMinutes_47 ?_ ?_
    · refine congrArg (fun z : Int => (some (vI z) : Option AV)) ?_
      unfold oldM
      (repeat' split) <;> first | omega | rfl | (rw [Int.sub_zero, Int.mul_tdiv_cancel _ (by decide)])
    · rfl
set_option maxRecDepth 100000 in
set_option maxHeartbeats 4000000 in
theorem c_X12_oldMinutes {K : KT} {dep : Nat} {h : Hp} {a : Int}  (hI : IMa h) (q0 : 0 ≤ a ∧ a < h 57 16) : AM K yX12_oldMinutes cX12_oldMinutes 2 (some .int) dep [vR 57, vI a] h (some (vI (oldM (h 69) (h 70) (h 63) a.toNat))) (h) := by
  refine AM.of (own := RX12) (ls := [some (vR 57), some (vI a)]) rfl (by decide +kernel) (by exact Nat.le_of_ble_eq_true rfl) rfl (fun hO => ?_)
  obtain ⟨hR, hS, hC, hU⟩ := hI
  obtain ⟨g1, g2, g3⟩ := oldM_in hU hS (r := a.toNat) (by omega)
  have g5 := hU.2.2 a.toNat (by omega)
  have g6 := hU.2.1
  have g7 := hS.2.1
  refine AW.aload_n (pc' := 1) dX12_oldMinutes_0 rfl ?_
  refine AW.getR (pc' := 4) dX12_oldMinutes_1 ly_57 fX12_46 rfl ?_
  refine AW.iload_n (pc' := 5) dX12_oldMinutes_4 rfl ?_
  first | refine AW.ialdN (pc' := 6) dX12_oldMinutes_5 ly_70 (by first | assumption | omega | (constructor <;> omega) | (simp only [Int.toNat_natCast]; omega) | exact b2_in _) (by decide) (fun r5 => ?_) | refine AW.iald (pc' := 6) dX12_oldMinutes_5 ly_70 (by first | assumption | omega | (constructor <;> omega) | (simp only [Int.toNat_natCast]; omega) | exact b2_in _) (by first | assumption | omega | (constructor <;> omega) | (simp only [Int.toNat_natCast]; omega) | exact b2_in _) (by decide) (fun r5 => ?_)
  refine AW.if_ge (tgt := 18) (pc' := 9) dX12_oldMinutes_6 (by first | assumption | omega | (constructor <;> omega) | (simp only [Int.toNat_natCast]; omega) | exact b2_in _) (fun c6 => ?_) (fun c6 => ?_)
  · have g8 := g3 (by omega)
    refine AW.aload_n (pc' := 19) dX12_oldMinutes_18 rfl ?_
    refine AW.getR (pc' := 22) dX12_oldMinutes_19 ly_57 fX12_43 rfl ?_
    refine AW.iload_n (pc' := 23) dX12_oldMinutes_22 rfl ?_
    first | refine AW.ialdN (pc' := 24) dX12_oldMinutes_23 ly_69 (by first | assumption | omega | (constructor <;> omega) | (simp only [Int.toNat_natCast]; omega) | exact b2_in _) (by decide) (fun r23 => ?_) | refine AW.iald (pc' := 24) dX12_oldMinutes_23 ly_69 (by first | assumption | omega | (constructor <;> omega) | (simp only [Int.toNat_natCast]; omega) | exact b2_in _) (by first | assumption | omega | (constructor <;> omega) | (simp only [Int.toNat_natCast]; omega) | exact b2_in _) (by decide) (fun r23 => ?_)
    refine AW.sipush (pc' := 27) dX12_oldMinutes_24 (by decide) ?_
    refine AW.imul (pc' := 28) dX12_oldMinutes_27 ?_
    refine AW.sipush (pc' := 31) dX12_oldMinutes_28 (by decide) ?_
    refine AW.aload_n (pc' := 32) dX12_oldMinutes_31 rfl ?_
    refine AW.getR (pc' := 35) dX12_oldMinutes_32 ly_57 fX12_25 rfl ?_
    refine AW.aload_n (pc' := 36) dX12_oldMinutes_35 rfl ?_
    refine AW.getR (pc' := 39) dX12_oldMinutes_36 ly_57 fX12_46 rfl ?_
    refine AW.iload_n (pc' := 40) dX12_oldMinutes_39 rfl ?_
    first | refine AW.ialdN (pc' := 41) dX12_oldMinutes_40 ly_70 (by first | assumption | omega | (constructor <;> omega) | (simp only [Int.toNat_natCast]; omega) | exact b2_in _) (by decide) (fun r40 => ?_) | refine AW.iald (pc' := 41) dX12_oldMinutes_40 ly_70 (by first | assumption | omega | (constructor <;> omega) | (simp only [Int.toNat_natCast]; omega) | exact b2_in _) (by first | assumption | omega | (constructor <;> omega) | (simp only [Int.toNat_natCast]; omega) | exact b2_in _) (by decide) (fun r40 => ?_)
    first | refine AW.ialdN (pc' := 42) dX12_oldMinutes_41 ly_63 (by first | assumption | omega | (constructor <;> omega) | (simp only [Int.toNat_natCast]; omega) | exact b2_in _) (by decide) (fun r41 => ?_) | refine AW.iald (pc' := 42) dX12_oldMinutes_41 ly_63 (by first | assumption | omega | (constructor <;> omega) | (simp only [Int.toNat_natCast]; omega) | exact b2_in _) (by first | assumption | omega | (constructor <;> omega) | (simp only [Int.toNat_natCast]; omega) | exact b2_in _) (by decide) (fun r41 => ?_)
    refine AW.isub (pc' := 43) dX12_oldMinutes_42 ?_
    refine AW.idiv (pc' := 44) dX12_oldMinutes_43 (by first | assumption | omega | (constructor <;> omega) | (simp only [Int.toNat_natCast]; omega) | exact b2_in _) (by first | assumption | omega | (constructor <;> omega) | (simp only [Int.toNat_natCast]; omega) | exact b2_in _) (by first | assumption | omega | (constructor <;> omega) | (simp only [Int.toNat_natCast]; omega) | exact b2_in _) ?_
    refine AW.iret dX12_oldMinutes_44 ?_ ?_
    · refine congrArg (fun z : Int => (some (vI z) : Option AV)) ?_
      unfold oldM
      (repeat' split) <;> first | rfl | omega
    · rfl
  · refine AW.aload_n (pc' := 10) dX12_oldMinutes_9 rfl ?_
    refine AW.getR (pc' := 13) dX12_oldMinutes_10 ly_57 fX12_43 rfl ?_
    refine AW.iload_n (pc' := 14) dX12_oldMinutes_13 rfl ?_
    first | refine AW.ialdN (pc' := 15) dX12_oldMinutes_14 ly_69 (by first | assumption | omega | (constructor <;> omega) | (simp only [Int.toNat_natCast]; omega) | exact b2_in _) (by decide) (fun r14 => ?_) | refine AW.iald (pc' := 15) dX12_oldMinutes_14 ly_69 (by first | assumption | omega | (constructor <;> omega) | (simp only [Int.toNat_natCast]; omega) | exact b2_in _) (by first | assumption | omega | (constructor <;> omega) | (simp only [Int.toNat_natCast]; omega) | exact b2_in _) (by decide) (fun r14 => ?_)
    refine AW.goto (tgt := 44) dX12_oldMinutes_15 ?_
    refine AW.iret dX12_oldMinutes_44 ?_ ?_
    · refine congrArg (fun z : Int => (some (vI z) : Option AV)) ?_
      unfold oldM
      (repeat' split) <;> first | rfl | omega
    · rfl
/-- a count that goes on: is there a lesser form -/
def lessS (fm dr : Nat → Int) (y own : Int) (k : Nat) (acc : Int) : Int := if fThen fm dr k y < own then acc + 1 else acc
theorem lessS_in (fm dr : Nat → Int) (y own : Int) (k : Nat) (acc : Int) : acc ≤ lessS fm dr y own k acc ∧ lessS fm dr y own k acc ≤ acc + 1 := by unfold lessS; split <;> omega
/-- how many have a lesser form then -/
def lessF (n : Int) (fm dr : Nat → Int) (r : Nat) (y : Int) : Int := lp (lessS fm dr y (fThen fm dr r y)) n.toNat 0 0
set_option maxRecDepth 100000 in
set_option maxHeartbeats 4000000 in
theorem lp_X6_ahead {K : KT} {X : XT} {dep : Nat} {h : Hp} {a b own : Int} (hI : IXa h) (qb : 0 ≤ b ∧ b ≤ 99) (ho : inI own) (hd : 2 ≤ dep) : ∀ (n k : Nat) (acc : Int), (k : Int) + n = h 1 4 → 0 ≤ acc → acc ≤ k → AW K X RX6 cX6_ahead 6 (some .int) dep 43 [some (vR 1), some (vI (a)), some (vI (b)), some (vI (lp (lessS (h 2) (h 3) b own) n k acc)), some (vI (own)), none] [] h → AW K X RX6 cX6_ahead 6 (some .int) dep 13 [some (vR 1), some (vI (a)), some (vI (b)), some (vI (acc)), some (vI (own)), some (vI ((k : Int)))] [] h := by
  have g6 := hI.1.1
  have g7 := hI.1.2.1
  intro n
  induction n with
  | zero =>
    intro k acc hk h0 h1 kk
    refine AW.iload (pc' := 15) dX6_ahead_13 rfl ?_
    refine AW.aload_n (pc' := 16) dX6_ahead_15 rfl ?_
    refine AW.getI (pc' := 19) dX6_ahead_16 ly_1 fX6_24 rfl (fun r16 => ?_)
    refine AW.icmp_ge (tgt := 43) (pc' := 22) dX6_ahead_19 (by first | assumption | omega | (constructor <;> omega) | (simp only [Int.toNat_natCast]; omega) | exact b2_in _) (by first | assumption | omega | (constructor <;> omega) | (simp only [Int.toNat_natCast]; omega) | exact b2_in _) (fun c19 => ?_) (fun c19 => ?_)
    · exact AW.weak kk (by (repeat' first | exact LSub.e | refine LSub.n ?_ | refine LSub.c ?_ ?_) <;> first | rfl | exact congrArg Sum.inl (by first | rfl | omega | omega))
    · omega
  | succ n ih =>
    intro k acc hk h0 h1 kk
    have hkr : ((k : Nat) : Int) < h 1 4 := by omega
    obtain ⟨g1, g2, g3, g4⟩ := fThen_in hI.1 hkr qb.1 qb.2
    have g5 := lessS_in (h 2) (h 3) b own k acc
    refine AW.iload (pc' := 15) dX6_ahead_13 rfl ?_
    refine AW.aload_n (pc' := 16) dX6_ahead_15 rfl ?_
    refine AW.getI (pc' := 19) dX6_ahead_16 ly_1 fX6_24 rfl (fun r16 => ?_)
    refine AW.icmp_ge (tgt := 43) (pc' := 22) dX6_ahead_19 (by first | assumption | omega | (constructor <;> omega) | (simp only [Int.toNat_natCast]; omega) | exact b2_in _) (by first | assumption | omega | (constructor <;> omega) | (simp only [Int.toNat_natCast]; omega) | exact b2_in _) (fun c19 => ?_) (fun c19 => ?_)
    · omega
    · refine AW.aload_n (pc' := 23) dX6_ahead_22 rfl ?_
      refine AW.iload (pc' := 25) dX6_ahead_23 rfl ?_
      refine AW.iload_n (pc' := 26) dX6_ahead_25 rfl ?_
      refine AW.invV2 (pc' := 29) dX6_ahead_26 mlX6_34 mX6_formThen ly_1 rfl (c_X6_formThen (dep := dep - 1) (by first | assumption | omega | (constructor <;> omega) | (simp only [Int.toNat_natCast]; omega) | exact b2_in _) (by first | assumption | omega | (constructor <;> omega) | (simp only [Int.toNat_natCast]; omega) | exact b2_in _) (by first | assumption | omega | (constructor <;> omega) | (simp only [Int.toNat_natCast]; omega) | exact b2_in _) (by first | assumption | omega | (constructor <;> omega) | (simp only [Int.toNat_natCast]; omega) | exact b2_in _)) ?_
      try simp only [Int.toNat_natCast]
      refine AW.iload (pc' := 31) dX6_ahead_29 rfl ?_
      refine AW.icmp_ge (tgt := 37) (pc' := 34) dX6_ahead_31 (by first | assumption | omega | (constructor <;> omega) | (simp only [Int.toNat_natCast]; omega) | exact b2_in _) (by first | assumption | omega | (constructor <;> omega) | (simp only [Int.toNat_natCast]; omega) | exact b2_in _) (fun c31 => ?_) (fun c31 => ?_)
      · refine AW.iinc5 (pc' := 40) dX6_ahead_37 (by decide) rfl ?_
        refine AW.goto (tgt := 13) dX6_ahead_40 ?_
        exact AW.weak (ih (k + 1) (lessS (h 2) (h 3) b own k acc) (by omega) (by omega) (by omega) kk) (by (repeat' first | exact LSub.e | refine LSub.n ?_ | refine LSub.c ?_ ?_) <;> first | rfl | exact congrArg Sum.inl (by first | rfl | omega | (unfold lessS; (try simp only [Int.toNat_natCast] at *); split <;> omega)))
      · refine AW.iinc3 (pc' := 37) dX6_ahead_34 (by decide) rfl ?_
        refine AW.iinc5 (pc' := 40) dX6_ahead_37 (by decide) rfl ?_
        refine AW.goto (tgt := 13) dX6_ahead_40 ?_
        exact AW.weak (ih (k + 1) (lessS (h 2) (h 3) b own k acc) (by omega) (by omega) (by omega) kk) (by (repeat' first | exact LSub.e | refine LSub.n ?_ | refine LSub.c ?_ ?_) <;> first | rfl | exact congrArg Sum.inl (by first | rfl | omega | (unfold lessS; (try simp only [Int.toNat_natCast] at *); split <;> omega)))
set_option maxRecDepth 100000 in
set_option maxHeartbeats 4000000 in
theorem c_X6_ahead {K : KT} {dep : Nat} {h : Hp} {a b : Int} (hd : 2 ≤ dep) (hI : IXa h) (q0 : 0 ≤ a ∧ a < h 1 4) (q1 : 0 ≤ b ∧ b ≤ 99) : AM K yX6_ahead cX6_ahead 6 (some .int) dep [vR 1, vI a, vI b] h (some (vI (lessF (h 1 4) (h 2) (h 3) a.toNat b))) (h) := by
  refine AM.of (own := RX6) (ls := [some (vR 1), some (vI a), some (vI b), none, none, none]) rfl (by decide +kernel) (by exact Nat.le_of_ble_eq_true rfl) rfl (fun hO => ?_)
  obtain ⟨g1, g2, g3, g4⟩ := fThen_in hI.1 (r := a.toNat) (by omega) q1.1 q1.2
  have g6 := hI.1.1
  have g7 := hI.1.2.1
  refine AW.iconst (pc' := 1) dX6_ahead_0 ?_
  refine AW.istore3n (pc' := 2) dX6_ahead_1 (by decide) rfl ?_
  refine AW.aload_n (pc' := 3) dX6_ahead_2 rfl ?_
  refine AW.iload_n (pc' := 4) dX6_ahead_3 rfl ?_
  refine AW.iload_n (pc' := 5) dX6_ahead_4 rfl ?_
  refine AW.invV2 (pc' := 8) dX6_ahead_5 mlX6_34 mX6_formThen ly_1 rfl (c_X6_formThen (dep := dep - 1) (by first | assumption | omega | (constructor <;> omega) | (simp only [Int.toNat_natCast]; omega) | exact b2_in _) (by first | assumption | omega | (constructor <;> omega) | (simp only [Int.toNat_natCast]; omega) | exact b2_in _) (by first | assumption | omega | (constructor <;> omega) | (simp only [Int.toNat_natCast]; omega) | exact b2_in _) (by first | assumption | omega | (constructor <;> omega) | (simp only [Int.toNat_natCast]; omega) | exact b2_in _)) ?_
  refine AW.istore4 (pc' := 10) dX6_ahead_8 (by decide) rfl ?_
  refine AW.iconst (pc' := 11) dX6_ahead_10 ?_
  refine AW.istore5 (pc' := 13) dX6_ahead_11 (by decide) rfl ?_
  refine AW.weak (lp_X6_ahead hI q1 (own := fThen (h 2) (h 3) a.toNat b) (by first | assumption | omega | (constructor <;> omega) | (simp only [Int.toNat_natCast]; omega) | exact b2_in _) hd (h 1 4).toNat 0 0 (by omega) (by omega) (by omega) ?_) (by (repeat' first | exact LSub.e | refine LSub.n ?_ | refine LSub.c ?_ ?_) <;> first | rfl | exact congrArg Sum.inl (by first | rfl | omega | omega))
  refine AW.iload_n (pc' := 44) dX6_ahead_43 rfl ?_
  refine AW.iret dX6_ahead_44 ?_ ?_
  all_goals first | rfl | exact congrArg (fun z : Int => (some (vI z) : Option AV)) (b2_t (by omega)) | exact congrArg (fun z : Int => (some (vI z) : Option AV)) (b2_f (by omega)) | ((repeat' split) <;> first | rfl | omega)
