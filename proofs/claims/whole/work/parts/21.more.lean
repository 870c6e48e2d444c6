/-! changes come; belt -/
theorem hcpy_app (h : Hp) (k0 k1 sp dp n a b : Nat) : hcpy h k0 k1 sp dp n a b = if a = k1 ∧ dp ≤ b ∧ b < dp + n then h k0 (sp + (b - dp)) else h a b := rfl
set_option maxRecDepth 100000 in
set_option maxHeartbeats 4000000 in
theorem c_X3_forgetFirst {K : KT} {dep : Nat} {h : Hp}  (hd : 1 ≤ dep)  : AM K yX3_forgetFirst cX3_forgetFirst 1 none dep [vR 21] h none (hcpy (hcpy (hcpy (hcpy (hset h 21 6 39) 22 22 1 0 39) 23 23 1 0 39) 24 24 1 0 39) 25 25 1 0 39) := by
  refine AM.of (own := RX3) (ls := [some (vR 21)]) rfl (by decide +kernel) (by exact Nat.le_of_ble_eq_true rfl) rfl (fun hO => ?_)
  refine AW.aload_n (pc' := 1) dX3_forgetFirst_0 rfl ?_
  refine AW.bipush (pc' := 3) dX3_forgetFirst_1 (by decide) ?_
  refine AW.putI (pc' := 6) dX3_forgetFirst_3 ly_21 pX3_49 rfl (by first | assumption | omega | (constructor <;> omega) | (simp only [Int.toNat_natCast]; omega) | exact b2_in _) ?_
  refine AW.aload_n (pc' := 7) dX3_forgetFirst_6 rfl ?_
  refine AW.getR (pc' := 10) dX3_forgetFirst_7 ly_21 fX3_9 rfl ?_
  refine AW.iconst (pc' := 11) dX3_forgetFirst_10 ?_
  refine AW.aload_n (pc' := 12) dX3_forgetFirst_11 rfl ?_
  refine AW.getR (pc' := 15) dX3_forgetFirst_12 ly_21 fX3_9 rfl ?_
  refine AW.iconst (pc' := 16) dX3_forgetFirst_15 ?_
  refine AW.aload_n (pc' := 17) dX3_forgetFirst_16 rfl ?_
  refine AW.getI (pc' := 20) dX3_forgetFirst_17 ly_21 fX3_49 rfl (fun r17 => ?_)
  try simp only [hcpy_app, hset_app, Nat.reduceEqDiff, false_and, and_false, true_and, and_true, reduceIte, Int.reduceToNat] at r17 ⊢
  try simp only [hset_app, Nat.reduceEqDiff, false_and, and_false, true_and, and_true, reduceIte] at r17 ⊢
  refine AW.copyI (pc' := 23) dX3_forgetFirst_20 mlX3_59 ly_22 ly_22 (by first | assumption | omega | (constructor <;> omega) | (simp only [Int.toNat_natCast]; omega) | exact b2_in _) (by first | assumption | omega | (constructor <;> omega) | (simp only [Int.toNat_natCast]; omega) | exact b2_in _) (by first | assumption | omega | (constructor <;> omega) | (simp only [Int.toNat_natCast]; omega) | exact b2_in _) (by first | assumption | omega | (constructor <;> omega) | (simp only [Int.toNat_natCast]; omega) | exact b2_in _) (by first | assumption | omega | (constructor <;> omega) | (simp only [Int.toNat_natCast]; omega) | exact b2_in _) (by decide) (by decide) ?_
  refine AW.aload_n (pc' := 24) dX3_forgetFirst_23 rfl ?_
  refine AW.getR (pc' := 27) dX3_forgetFirst_24 ly_21 fX3_15 rfl ?_
  refine AW.iconst (pc' := 28) dX3_forgetFirst_27 ?_
  refine AW.aload_n (pc' := 29) dX3_forgetFirst_28 rfl ?_
  refine AW.getR (pc' := 32) dX3_forgetFirst_29 ly_21 fX3_15 rfl ?_
  refine AW.iconst (pc' := 33) dX3_forgetFirst_32 ?_
  refine AW.aload_n (pc' := 34) dX3_forgetFirst_33 rfl ?_
  refine AW.getI (pc' := 37) dX3_forgetFirst_34 ly_21 fX3_49 rfl (fun r34 => ?_)
  try simp only [hcpy_app, hset_app, Nat.reduceEqDiff, false_and, and_false, true_and, and_true, reduceIte, Int.reduceToNat] at r34 ⊢
  try simp only [hset_app, Nat.reduceEqDiff, false_and, and_false, true_and, and_true, reduceIte] at r34 ⊢
  refine AW.copyI (pc' := 40) dX3_forgetFirst_37 mlX3_59 ly_23 ly_23 (by first | assumption | omega | (constructor <;> omega) | (simp only [Int.toNat_natCast]; omega) | exact b2_in _) (by first | assumption | omega | (constructor <;> omega) | (simp only [Int.toNat_natCast]; omega) | exact b2_in _) (by first | assumption | omega | (constructor <;> omega) | (simp only [Int.toNat_natCast]; omega) | exact b2_in _) (by first | assumption | omega | (constructor <;> omega) | (simp only [Int.toNat_natCast]; omega) | exact b2_in _) (by first | assumption | omega | (constructor <;> omega) | (simp only [Int.toNat_natCast]; omega) | exact b2_in _) (by decide) (by decide) ?_
  refine AW.aload_n (pc' := 41) dX3_forgetFirst_40 rfl ?_
  refine AW.getR (pc' := 44) dX3_forgetFirst_41 ly_21 fX3_18 rfl ?_
  refine AW.iconst (pc' := 45) dX3_forgetFirst_44 ?_
  refine AW.aload_n (pc' := 46) dX3_forgetFirst_45 rfl ?_
  refine AW.getR (pc' := 49) dX3_forgetFirst_46 ly_21 fX3_18 rfl ?_
  refine AW.iconst (pc' := 50) dX3_forgetFirst_49 ?_
  refine AW.aload_n (pc' := 51) dX3_forgetFirst_50 rfl ?_
  refine AW.getI (pc' := 54) dX3_forgetFirst_51 ly_21 fX3_49 rfl (fun r51 => ?_)
  try simp only [hcpy_app, hset_app, Nat.reduceEqDiff, false_and, and_false, true_and, and_true, reduceIte, Int.reduceToNat] at r51 ⊢
  try simp only [hset_app, Nat.reduceEqDiff, false_and, and_false, true_and, and_true, reduceIte] at r51 ⊢
  refine AW.copyI (pc' := 57) dX3_forgetFirst_54 mlX3_59 ly_24 ly_24 (by first | assumption | omega | (constructor <;> omega) | (simp only [Int.toNat_natCast]; omega) | exact b2_in _) (by first | assumption | omega | (constructor <;> omega) | (simp only [Int.toNat_natCast]; omega) | exact b2_in _) (by first | assumption | omega | (constructor <;> omega) | (simp only [Int.toNat_natCast]; omega) | exact b2_in _) (by first | assumption | omega | (constructor <;> omega) | (simp only [Int.toNat_natCast]; omega) | exact b2_in _) (by first | assumption | omega | (constructor <;> omega) | (simp only [Int.toNat_natCast]; omega) | exact b2_in _) (by decide) (by decide) ?_
  refine AW.aload_n (pc' := 58) dX3_forgetFirst_57 rfl ?_
  refine AW.getR (pc' := 61) dX3_forgetFirst_58 ly_21 fX3_21 rfl ?_
  refine AW.iconst (pc' := 62) dX3_forgetFirst_61 ?_
  refine AW.aload_n (pc' := 63) dX3_forgetFirst_62 rfl ?_
  refine AW.getR (pc' := 66) dX3_forgetFirst_63 ly_21 fX3_21 rfl ?_
  refine AW.iconst (pc' := 67) dX3_forgetFirst_66 ?_
  refine AW.aload_n (pc' := 68) dX3_forgetFirst_67 rfl ?_
  refine AW.getI (pc' := 71) dX3_forgetFirst_68 ly_21 fX3_49 rfl (fun r68 => ?_)
  try simp only [hcpy_app, hset_app, Nat.reduceEqDiff, false_and, and_false, true_and, and_true, reduceIte, Int.reduceToNat] at r68 ⊢
  try simp only [hset_app, Nat.reduceEqDiff, false_and, and_false, true_and, and_true, reduceIte] at r68 ⊢
  refine AW.copyI (pc' := 74) dX3_forgetFirst_71 mlX3_59 ly_25 ly_25 (by first | assumption | omega | (constructor <;> omega) | (simp only [Int.toNat_natCast]; omega) | exact b2_in _) (by first | assumption | omega | (constructor <;> omega) | (simp only [Int.toNat_natCast]; omega) | exact b2_in _) (by first | assumption | omega | (constructor <;> omega) | (simp only [Int.toNat_natCast]; omega) | exact b2_in _) (by first | assumption | omega | (constructor <;> omega) | (simp only [Int.toNat_natCast]; omega) | exact b2_in _) (by first | assumption | omega | (constructor <;> omega) | (simp only [Int.toNat_natCast]; omega) | exact b2_in _) (by decide) (by decide) ?_
  refine AW.vret dX3_forgetFirst_74 ?_ ?_
  all_goals first | rfl | exact congrArg (fun z : Int => (some (vI z) : Option AV)) (b2_t (by omega)) | exact congrArg (fun z : Int => (some (vI z) : Option AV)) (b2_f (by omega)) | ((repeat' split) <;> first | rfl | omega) | (refine congrArg (fun z : Int => (some (vI z) : Option AV)) ?_; (repeat' split) <;> first | rfl | omega)
def fgX (h : Hp) : Hp := hcpy (hcpy (hcpy (hcpy (hset h 21 6 39) 22 22 1 0 39) 23 23 1 0 39) 24 24 1 0 39) 25 25 1 0 39
/-- the heap behind a change that is kept at the end -/
def chX (g : Hp) (a b c d : Int) : Hp := hset (hset (hset (hset (hset (hset (hset g 22 (g 21 6).toNat a) 23 (g 21 6).toNat b) 24 (g 21 6).toNat c) 25 (g 21 6).toNat d) (tblX b) a.toNat d) 21 6 (g 21 6 + 1)) 21 7 (g 21 6 + 1)
theorem fgX_done (h : Hp) : fgX h 21 6 = 39 := by
  simp only [fgX, hcpy_app, hset_app, Nat.reduceEqDiff, false_and, and_false, true_and, and_true, reduceIte]
set_option maxRecDepth 100000 in
set_option maxHeartbeats 4000000 in
theorem tl_X3_come {K : KT}  {dep : Nat} {g : Hp} {a b c d : Int} (q0 : 0 ≤ g 21 6 ∧ g 21 6 < 40) (q1 : 0 ≤ a ∧ a < 120) (q2 : 0 ≤ b ∧ b ≤ 2) (q3 : b = 2 → a < 6) (q4 : inI c) (q5 : inI d) (hd : 1 ≤ dep) :  AW K (XM K none (chX g a b c d)) RX3 cX3_come 5 none dep 13 [some (vR 21), some (vI (a)), some (vI (b)), some (vI (c)), some (vI (d))] [] g := by
  refine AW.aload_n (pc' := 14) dX3_come_13 rfl ?_
  refine AW.getR (pc' := 17) dX3_come_14 ly_21 fX3_9 rfl ?_
  refine AW.aload_n (pc' := 18) dX3_come_17 rfl ?_
  refine AW.getI (pc' := 21) dX3_come_18 ly_21 fX3_49 rfl (fun r18 => ?_)
  refine AW.iload_n (pc' := 22) dX3_come_21 rfl ?_
  first | refine AW.iastN (pc' := 23) dX3_come_22 ly_22 (by first | assumption | omega | (constructor <;> omega) | (simp only [Int.toNat_natCast]; omega) | exact b2_in _) (by decide) (by first | assumption | omega | (constructor <;> omega) | (simp only [Int.toNat_natCast]; omega) | exact b2_in _) ?_ | refine AW.iast (pc' := 23) dX3_come_22 ly_22 (by first | assumption | omega | (constructor <;> omega) | (simp only [Int.toNat_natCast]; omega) | exact b2_in _) (by first | assumption | omega | (constructor <;> omega) | (simp only [Int.toNat_natCast]; omega) | exact b2_in _) (by decide) (by first | assumption | omega | (constructor <;> omega) | (simp only [Int.toNat_natCast]; omega) | exact b2_in _) ?_
  refine AW.aload_n (pc' := 24) dX3_come_23 rfl ?_
  refine AW.getR (pc' := 27) dX3_come_24 ly_21 fX3_15 rfl ?_
  refine AW.aload_n (pc' := 28) dX3_come_27 rfl ?_
  refine AW.getI (pc' := 31) dX3_come_28 ly_21 fX3_49 rfl (fun r28 => ?_)
  try simp only [hset_app, Nat.reduceEqDiff, false_and, and_false, true_and, and_true, reduceIte] at r28 ⊢
  refine AW.iload_n (pc' := 32) dX3_come_31 rfl ?_
  first | refine AW.iastN (pc' := 33) dX3_come_32 ly_23 (by first | assumption | omega | (constructor <;> omega) | (simp only [Int.toNat_natCast]; omega) | exact b2_in _) (by decide) (by first | assumption | omega | (constructor <;> omega) | (simp only [Int.toNat_natCast]; omega) | exact b2_in _) ?_ | refine AW.iast (pc' := 33) dX3_come_32 ly_23 (by first | assumption | omega | (constructor <;> omega) | (simp only [Int.toNat_natCast]; omega) | exact b2_in _) (by first | assumption | omega | (constructor <;> omega) | (simp only [Int.toNat_natCast]; omega) | exact b2_in _) (by decide) (by first | assumption | omega | (constructor <;> omega) | (simp only [Int.toNat_natCast]; omega) | exact b2_in _) ?_
  refine AW.aload_n (pc' := 34) dX3_come_33 rfl ?_
  refine AW.getR (pc' := 37) dX3_come_34 ly_21 fX3_18 rfl ?_
  refine AW.aload_n (pc' := 38) dX3_come_37 rfl ?_
  refine AW.getI (pc' := 41) dX3_come_38 ly_21 fX3_49 rfl (fun r38 => ?_)
  try simp only [hset_app, Nat.reduceEqDiff, false_and, and_false, true_and, and_true, reduceIte] at r38 ⊢
  refine AW.iload_n (pc' := 42) dX3_come_41 rfl ?_
  first | refine AW.iastN (pc' := 43) dX3_come_42 ly_24 (by first | assumption | omega | (constructor <;> omega) | (simp only [Int.toNat_natCast]; omega) | exact b2_in _) (by decide) (by first | assumption | omega | (constructor <;> omega) | (simp only [Int.toNat_natCast]; omega) | exact b2_in _) ?_ | refine AW.iast (pc' := 43) dX3_come_42 ly_24 (by first | assumption | omega | (constructor <;> omega) | (simp only [Int.toNat_natCast]; omega) | exact b2_in _) (by first | assumption | omega | (constructor <;> omega) | (simp only [Int.toNat_natCast]; omega) | exact b2_in _) (by decide) (by first | assumption | omega | (constructor <;> omega) | (simp only [Int.toNat_natCast]; omega) | exact b2_in _) ?_
  refine AW.aload_n (pc' := 44) dX3_come_43 rfl ?_
  refine AW.getR (pc' := 47) dX3_come_44 ly_21 fX3_21 rfl ?_
  refine AW.aload_n (pc' := 48) dX3_come_47 rfl ?_
  refine AW.getI (pc' := 51) dX3_come_48 ly_21 fX3_49 rfl (fun r48 => ?_)
  try simp only [hset_app, Nat.reduceEqDiff, false_and, and_false, true_and, and_true, reduceIte] at r48 ⊢
  refine AW.iload (pc' := 53) dX3_come_51 rfl ?_
  first | refine AW.iastN (pc' := 54) dX3_come_53 ly_25 (by first | assumption | omega | (constructor <;> omega) | (simp only [Int.toNat_natCast]; omega) | exact b2_in _) (by decide) (by first | assumption | omega | (constructor <;> omega) | (simp only [Int.toNat_natCast]; omega) | exact b2_in _) ?_ | refine AW.iast (pc' := 54) dX3_come_53 ly_25 (by first | assumption | omega | (constructor <;> omega) | (simp only [Int.toNat_natCast]; omega) | exact b2_in _) (by first | assumption | omega | (constructor <;> omega) | (simp only [Int.toNat_natCast]; omega) | exact b2_in _) (by decide) (by first | assumption | omega | (constructor <;> omega) | (simp only [Int.toNat_natCast]; omega) | exact b2_in _) ?_
  refine AW.aload_n (pc' := 55) dX3_come_54 rfl ?_
  refine AW.iload_n (pc' := 56) dX3_come_55 rfl ?_
  by_cases v56_0 : b = 0
  · subst v56_0
    refine AW.invV1 (pc' := 59) dX3_come_56 mlX3_45 mX3_table ly_21 rfl (c_X3_table0 (dep := dep - 1)) ?_
    refine AW.iload_n (pc' := 60) dX3_come_59 rfl ?_
    refine AW.iload (pc' := 62) dX3_come_60 rfl ?_
    first | refine AW.iastN (pc' := 63) dX3_come_62 ly_16 (by first | assumption | omega | (constructor <;> omega) | (simp only [Int.toNat_natCast]; omega) | exact b2_in _) (by decide) (by first | assumption | omega | (constructor <;> omega) | (simp only [Int.toNat_natCast]; omega) | exact b2_in _) ?_ | refine AW.iast (pc' := 63) dX3_come_62 ly_16 (by first | assumption | omega | (constructor <;> omega) | (simp only [Int.toNat_natCast]; omega) | exact b2_in _) (by first | assumption | omega | (constructor <;> omega) | (simp only [Int.toNat_natCast]; omega) | exact b2_in _) (by decide) (by first | assumption | omega | (constructor <;> omega) | (simp only [Int.toNat_natCast]; omega) | exact b2_in _) ?_
    refine AW.aload_n (pc' := 64) dX3_come_63 rfl ?_
    refine AW.dup (pc' := 65) dX3_come_64 rfl ?_
    refine AW.getI (pc' := 68) dX3_come_65 ly_21 fX3_49 rfl (fun r65 => ?_)
    try simp only [hset_app, Nat.reduceEqDiff, false_and, and_false, true_and, and_true, reduceIte] at r65 ⊢
    refine AW.iconst (pc' := 69) dX3_come_68 ?_
    refine AW.iadd (pc' := 70) dX3_come_69 ?_
    refine AW.putI (pc' := 73) dX3_come_70 ly_21 pX3_49 rfl (by first | assumption | omega | (constructor <;> omega) | (simp only [Int.toNat_natCast]; omega) | exact b2_in _) ?_
    refine AW.aload_n (pc' := 74) dX3_come_73 rfl ?_
    refine AW.aload_n (pc' := 75) dX3_come_74 rfl ?_
    refine AW.getI (pc' := 78) dX3_come_75 ly_21 fX3_49 rfl (fun r75 => ?_)
    try simp only [hset_app, Nat.reduceEqDiff, false_and, and_false, true_and, and_true, reduceIte] at r75 ⊢
    refine AW.putI (pc' := 81) dX3_come_78 ly_21 pX3_56 rfl (by first | assumption | omega | (constructor <;> omega) | (simp only [Int.toNat_natCast]; omega) | exact b2_in _) ?_
    refine AW.vret dX3_come_81 ?_ ?_
    · rfl
    · rfl
  by_cases v56_1 : b = 1
  · subst v56_1
    refine AW.invV1 (pc' := 59) dX3_come_56 mlX3_45 mX3_table ly_21 rfl (c_X3_table1 (dep := dep - 1)) ?_
    refine AW.iload_n (pc' := 60) dX3_come_59 rfl ?_
    refine AW.iload (pc' := 62) dX3_come_60 rfl ?_
    first | refine AW.iastN (pc' := 63) dX3_come_62 ly_17 (by first | assumption | omega | (constructor <;> omega) | (simp only [Int.toNat_natCast]; omega) | exact b2_in _) (by decide) (by first | assumption | omega | (constructor <;> omega) | (simp only [Int.toNat_natCast]; omega) | exact b2_in _) ?_ | refine AW.iast (pc' := 63) dX3_come_62 ly_17 (by first | assumption | omega | (constructor <;> omega) | (simp only [Int.toNat_natCast]; omega) | exact b2_in _) (by first | assumption | omega | (constructor <;> omega) | (simp only [Int.toNat_natCast]; omega) | exact b2_in _) (by decide) (by first | assumption | omega | (constructor <;> omega) | (simp only [Int.toNat_natCast]; omega) | exact b2_in _) ?_
    refine AW.aload_n (pc' := 64) dX3_come_63 rfl ?_
    refine AW.dup (pc' := 65) dX3_come_64 rfl ?_
    refine AW.getI (pc' := 68) dX3_come_65 ly_21 fX3_49 rfl (fun r65 => ?_)
    try simp only [hset_app, Nat.reduceEqDiff, false_and, and_false, true_and, and_true, reduceIte] at r65 ⊢
    refine AW.iconst (pc' := 69) dX3_come_68 ?_
    refine AW.iadd (pc' := 70) dX3_come_69 ?_
    refine AW.putI (pc' := 73) dX3_come_70 ly_21 pX3_49 rfl (by first | assumption | omega | (constructor <;> omega) | (simp only [Int.toNat_natCast]; omega) | exact b2_in _) ?_
    refine AW.aload_n (pc' := 74) dX3_come_73 rfl ?_
    refine AW.aload_n (pc' := 75) dX3_come_74 rfl ?_
    refine AW.getI (pc' := 78) dX3_come_75 ly_21 fX3_49 rfl (fun r75 => ?_)
    try simp only [hset_app, Nat.reduceEqDiff, false_and, and_false, true_and, and_true, reduceIte] at r75 ⊢
    refine AW.putI (pc' := 81) dX3_come_78 ly_21 pX3_56 rfl (by first | assumption | omega | (constructor <;> omega) | (simp only [Int.toNat_natCast]; omega) | exact b2_in _) ?_
    refine AW.vret dX3_come_81 ?_ ?_
    · rfl
    · rfl
  by_cases v56_2 : b = 2
  · subst v56_2
    refine AW.invV1 (pc' := 59) dX3_come_56 mlX3_45 mX3_table ly_21 rfl (c_X3_table2 (dep := dep - 1)) ?_
    refine AW.iload_n (pc' := 60) dX3_come_59 rfl ?_
    refine AW.iload (pc' := 62) dX3_come_60 rfl ?_
    first | refine AW.iastN (pc' := 63) dX3_come_62 ly_8 (by first | assumption | omega | (constructor <;> omega) | (simp only [Int.toNat_natCast]; omega) | exact b2_in _) (by decide) (by first | assumption | omega | (constructor <;> omega) | (simp only [Int.toNat_natCast]; omega) | exact b2_in _) ?_ | refine AW.iast (pc' := 63) dX3_come_62 ly_8 (by first | assumption | omega | (constructor <;> omega) | (simp only [Int.toNat_natCast]; omega) | exact b2_in _) (by first | assumption | omega | (constructor <;> omega) | (simp only [Int.toNat_natCast]; omega) | exact b2_in _) (by decide) (by first | assumption | omega | (constructor <;> omega) | (simp only [Int.toNat_natCast]; omega) | exact b2_in _) ?_
    refine AW.aload_n (pc' := 64) dX3_come_63 rfl ?_
    refine AW.dup (pc' := 65) dX3_come_64 rfl ?_
    refine AW.getI (pc' := 68) dX3_come_65 ly_21 fX3_49 rfl (fun r65 => ?_)
    try simp only [hset_app, Nat.reduceEqDiff, false_and, and_false, true_and, and_true, reduceIte] at r65 ⊢
    refine AW.iconst (pc' := 69) dX3_come_68 ?_
    refine AW.iadd (pc' := 70) dX3_come_69 ?_
    refine AW.putI (pc' := 73) dX3_come_70 ly_21 pX3_49 rfl (by first | assumption | omega | (constructor <;> omega) | (simp only [Int.toNat_natCast]; omega) | exact b2_in _) ?_
    refine AW.aload_n (pc' := 74) dX3_come_73 rfl ?_
    refine AW.aload_n (pc' := 75) dX3_come_74 rfl ?_
    refine AW.getI (pc' := 78) dX3_come_75 ly_21 fX3_49 rfl (fun r75 => ?_)
    try simp only [hset_app, Nat.reduceEqDiff, false_and, and_false, true_and, and_true, reduceIte] at r75 ⊢
    refine AW.putI (pc' := 81) dX3_come_78 ly_21 pX3_56 rfl (by first | assumption | omega | (constructor <;> omega) | (simp only [Int.toNat_natCast]; omega) | exact b2_in _) ?_
    refine AW.vret dX3_come_81 ?_ ?_
    · rfl
    · rfl
  exfalso
  omega
set_option maxRecDepth 100000 in
set_option maxHeartbeats 4000000 in
theorem c_X3_come {K : KT} {dep : Nat} {h : Hp} {a b c d : Int} (hd : 2 ≤ dep) (q0 : 0 ≤ h 21 6) (q1 : 0 ≤ a ∧ a < 120) (q2 : 0 ≤ b ∧ b ≤ 2) (q3 : b = 2 → a < 6) (q4 : inI c) (q5 : inI d) : AM K yX3_come cX3_come 5 none dep [vR 21, vI a, vI b, vI c, vI d] h none (chX (if 40 ≤ h 21 6 then fgX h else h) a b c d) := by
  refine AM.of (own := RX3) (ls := [some (vR 21), some (vI a), some (vI b), some (vI c), some (vI d)]) rfl (by decide +kernel) (by exact Nat.le_of_ble_eq_true rfl) rfl (fun hO => ?_)
  refine AW.aload_n (pc' := 1) dX3_come_0 rfl ?_
  refine AW.getI (pc' := 4) dX3_come_1 ly_21 fX3_49 rfl (fun r1 => ?_)
  refine AW.bipush (pc' := 6) dX3_come_4 (by decide) ?_
  refine AW.icmp_lt (tgt := 13) (pc' := 9) dX3_come_6 (by first | assumption | omega | (constructor <;> omega) | (simp only [Int.toNat_natCast]; omega) | exact b2_in _) (by first | assumption | omega | (constructor <;> omega) | (simp only [Int.toNat_natCast]; omega) | exact b2_in _) (fun c6 => ?_) (fun c6 => ?_)
  · rw [if_neg (by omega)]
    exact tl_X3_come (by omega) q1 q2 q3 q4 q5 (by omega)
  · refine AW.aload_n (pc' := 10) dX3_come_9 rfl ?_
    refine AW.invV0v (pc' := 13) dX3_come_10 mlX3_53 mX3_forgetFirst ly_21 rfl (c_X3_forgetFirst (dep := dep - 1) (by first | assumption | omega | (constructor <;> omega) | (simp only [Int.toNat_natCast]; omega) | exact b2_in _)) ?_
    rw [if_pos (by omega), show hcpy (hcpy (hcpy (hcpy (hset h 21 6 39) 22 22 1 0 39) 23 23 1 0 39) 24 24 1 0 39) 25 25 1 0 39 = fgX h from rfl]
    exact tl_X3_come (by rw [fgX_done]; decide) q1 q2 q3 q4 q5 (by omega)
set_option maxRecDepth 100000 in
set_option maxHeartbeats 4000000 in
theorem c_X11_undo {K : KT} {dep : Nat} {h : Hp}  (hd : 2 ≤ dep) (q0 : h 21 6 ≤ 40) (q1 : PChg (h 21 6) (h 12 10) (h 6 3) (h 22) (h 23) (h 24) (h 25)) (q2 : h 12 10 ≤ 120) (q3 : h 6 3 ≤ 6) : AM K yX11_undo cX11_undo 1 (some .int) dep [vR 0] h (some (vI (if h 21 6 ≤ 0 then -5 else h 21 6 - 1))) (if h 21 6 ≤ 0 then h else hset (hset h 21 6 (h 21 6 - 1)) (tblX (h 23 (h 21 6 - 1).toNat)) (h 22 (h 21 6 - 1).toNat).toNat (h 24 (h 21 6 - 1).toNat)) := by
  refine AM.of (own := RX11) (ls := [some (vR 0)]) rfl (by decide +kernel) (by exact Nat.le_of_ble_eq_true rfl) rfl (fun hO => ?_)
  refine AW.aload_n (pc' := 1) dX11_undo_0 rfl ?_
  refine AW.getR (pc' := 4) dX11_undo_1 ly_0 fX11_44 rfl ?_
  refine AW.invV0 (pc' := 7) dX11_undo_4 mlX11_291 mX3_back ly_21 rfl (c_X3_back (dep := dep - 1) (by first | assumption | omega | (constructor <;> omega) | (simp only [Int.toNat_natCast]; omega) | exact b2_in _) (by first | assumption | omega | (constructor <;> omega) | (simp only [Int.toNat_natCast]; omega) | exact b2_in _) (by first | assumption | omega | (constructor <;> omega) | (simp only [Int.toNat_natCast]; omega) | exact b2_in _) (by first | assumption | omega | (constructor <;> omega) | (simp only [Int.toNat_natCast]; omega) | exact b2_in _) (by first | assumption | omega | (constructor <;> omega) | (simp only [Int.toNat_natCast]; omega) | exact b2_in _)) ?_
  refine AW.iret dX11_undo_7 ?_ ?_
  all_goals first | rfl | exact congrArg (fun z : Int => (some (vI z) : Option AV)) (b2_t (by omega)) | exact congrArg (fun z : Int => (some (vI z) : Option AV)) (b2_f (by omega)) | ((repeat' split) <;> first | rfl | omega) | (refine congrArg (fun z : Int => (some (vI z) : Option AV)) ?_; (repeat' split) <;> first | rfl | omega)
set_option maxRecDepth 100000 in
set_option maxHeartbeats 4000000 in
theorem c_X11_redo {K : KT} {dep : Nat} {h : Hp}  (hd : 2 ≤ dep) (q0 : 0 ≤ h 21 6 ∧ h 21 7 ≤ 40) (q1 : PChg (h 21 7) (h 12 10) (h 6 3) (h 22) (h 23) (h 24) (h 25)) (q2 : h 12 10 ≤ 120) (q3 : h 6 3 ≤ 6) : AM K yX11_redo cX11_redo 1 (some .int) dep [vR 0] h (some (vI (if h 21 7 ≤ h 21 6 then -5 else h 21 7 - (h 21 6 + 1)))) (if h 21 7 ≤ h 21 6 then h else hset (hset h (tblX (h 23 (h 21 6).toNat)) (h 22 (h 21 6).toNat).toNat (h 25 (h 21 6).toNat)) 21 6 (h 21 6 + 1)) := by
  refine AM.of (own := RX11) (ls := [some (vR 0)]) rfl (by decide +kernel) (by exact Nat.le_of_ble_eq_true rfl) rfl (fun hO => ?_)
  refine AW.aload_n (pc' := 1) dX11_redo_0 rfl ?_
  refine AW.getR (pc' := 4) dX11_redo_1 ly_0 fX11_44 rfl ?_
  refine AW.invV0 (pc' := 7) dX11_redo_4 mlX11_294 mX3_again ly_21 rfl (c_X3_again (dep := dep - 1) (by first | assumption | omega | (constructor <;> omega) | (simp only [Int.toNat_natCast]; omega) | exact b2_in _) (by first | assumption | omega | (constructor <;> omega) | (simp only [Int.toNat_natCast]; omega) | exact b2_in _) (by first | assumption | omega | (constructor <;> omega) | (simp only [Int.toNat_natCast]; omega) | exact b2_in _) (by first | assumption | omega | (constructor <;> omega) | (simp only [Int.toNat_natCast]; omega) | exact b2_in _) (by first | assumption | omega | (constructor <;> omega) | (simp only [Int.toNat_natCast]; omega) | exact b2_in _)) ?_
  refine AW.iret dX11_redo_7 ?_ ?_
  all_goals first | rfl | exact congrArg (fun z : Int => (some (vI z) : Option AV)) (b2_t (by omega)) | exact congrArg (fun z : Int => (some (vI z) : Option AV)) (b2_f (by omega)) | ((repeat' split) <;> first | rfl | omega) | (refine congrArg (fun z : Int => (some (vI z) : Option AV)) ?_; (repeat' split) <;> first | rfl | omega)
