/-! changes come; belt -/
theorem hcpy_app (h : Hp) (k0 k1 sp dp n a b : Nat) : hcpy h k0 k1 sp dp n a b = if a = k1 ∧ dp ≤ b ∧ b < dp + n then h k0 (sp + (b - dp)) else h a b := rfl
set_option maxRecDepth 100000 in
set_option maxHeartbeats 4000000 in
theorem c_X3_forgetFirst {K : KT} {dep : Nat} {h : Hp}  (hd : 1 ≤ dep)  : AM K yX3_forgetFirst cX3_forgetFirst 1 none dep [vR 21] h none (hcpy (hcpy (hcpy (hcpy (hset h 21 6 39) 22 22 1 0 39) 23 23 1 0 39) 24 24 1 0 39) 25 25 1 0 39) := by
  refine AM.of (own := RX3) (ls := [some (vR 21)]) rfl (by decide +kernel) (by exact Nat.le_of_ble_eq_true rfl) rfl (fun hO => ?_)
  refine AW.aload_n (pc' := 1) dX3_forgetFirst_0 rfl ?_
  refine AW.bipush (pc' := 3) dX3_forgetFirst_1 (by decide) ?_
  refine AW.putI (pc' := 6) dX3_forgetFirst_3 ly_21 pX3_49 rfl (by first | assumption | omega | (constructor <;> omega) | (simp only [Int.toNat_natCast]; omega) | exact b2_in _) ?_
  refine AW.aload_n (pc' := 7) dX3_forgetFirst_6 rfl ?_
  refine AW.getR (pc' := 10) dX3_forgetFirst_7 ly_21 fX3_9 rfl ?_
  refine AW.iconst (pc' := 11) dX3_forgetFirst_10 ?_
  refine AW.aload_n (pc' := 12) dX3_forgetFirst_11 rfl ?_
  refine AW.getR (pc' := 15) dX3_forgetFirst_12 ly_21 fX3_9 rfl ?_
  refine AW.iconst (pc' := 16) dX3_forgetFirst_15 ?_
  refine AW.aload_n (pc' := 17) dX3_forgetFirst_16 rfl ?_
  refine AW.getI (pc' := 20) dX3_forgetFirst_17 ly_21 fX3_49 rfl (fun r17 => ?_)
  try simp only [hcpy_app, hset_app, Nat.reduceEqDiff, false_and, and_false, true_and, and_true, reduceIte, Int.reduceToNat] at r17 ⊢
  try simp only [hset_app, Nat.reduceEqDiff, false_and, and_false, true_and, and_true, reduceIte] at r17 ⊢
  refine AW.copyI (pc' := 23) dX3_forgetFirst_20 mlX3_59 ly_22 ly_22 (by first | assumption | omega | (constructor <;> omega) | (simp only [Int.toNat_natCast]; omega) | exact b2_in _) (by first | assumption | omega | (constructor <;> omega) | (simp only [Int.toNat_natCast]; omega) | exact b2_in _) (by first | assumption | omega | (constructor <;> omega) | (simp only [Int.toNat_natCast]; omega) | exact b2_in _) (by first | assumption | omega | (constructor <;> omega) | (simp only [Int.toNat_natCast]; omega) | exact b2_in _) (by first | assumption | omega | (constructor <;> omega) | (simp only [Int.toNat_natCast]; omega) | exact b2_in _) (by decide) (by decide) ?_
  refine AW.aload_n (pc' := 24) dX3_forgetFirst_23 rfl ?_
  refine AW.getR (pc' := 27) dX3_forgetFirst_24 ly_21 fX3_15 rfl ?_
  refine AW.iconst (pc' := 28) dX3_forgetFirst_27 ?_
  refine AW.aload_n (pc' := 29) dX3_forgetFirst_28 rfl ?_
  refine AW.getR (pc' := 32) dX3_forgetFirst_29 ly_21 fX3_15 rfl ?_
  refine AW.iconst (pc' := 33) dX3_forgetFirst_32 ?_
  refine AW.aload_n (pc' := 34) dX3_forgetFirst_33 rfl ?_
  refine AW.getI (pc' := 37) dX3_forgetFirst_34 ly_21 fX3_49 rfl (fun r34 => ?_)
  try simp only [hcpy_app, hset_app, Nat.reduceEqDiff, false_and, and_false, true_and, and_true, reduceIte, Int.reduceToNat] at r34 ⊢
  try simp only [hset_app, Nat.reduceEqDiff, false_and, and_false, true_and, and_true, reduceIte] at r34 ⊢
  refine AW.copyI (pc' := 40) dX3_forgetFirst_37 mlX3_59 ly_23 ly_23 (by first | assumption | omega | (constructor <;> omega) | (simp only [Int.toNat_natCast]; omega) | exact b2_in _) (by first | assumption | omega | (constructor <;> omega) | (simp only [Int.toNat_natCast]; omega) | exact b2_in _) (by first | assumption | omega | (constructor <;> omega) | (simp only [Int.toNat_natCast]; omega) | exact b2_in _) (by first | assumption | omega | (constructor <;> omega) | (simp only [Int.toNat_natCast]; omega) | exact b2_in _) (by first | assumption | omega | (constructor <;> omega) | (simp only [Int.toNat_natCast]; omega) | exact b2_in _) (by decide) (by decide) ?_
  refine AW.aload_n (pc' := 41) dX3_forgetFirst_40 rfl ?_
  refine AW.getR (pc' := 44) dX3_forgetFirst_41 ly_21 fX3_18 rfl ?_
  refine AW.iconst (pc' := 45) dX3_forgetFirst_44 ?_
  refine AW.aload_n (pc' := 46) dX3_forgetFirst_45 rfl ?_
  refine AW.getR (pc' := 49) dX3_forgetFirst_46 ly_21 fX3_18 rfl ?_
  refine AW.iconst (pc' := 50) dX3_forgetFirst_49 ?_
  refine AW.aload_n (pc' := 51) dX3_forgetFirst_50 rfl ?_
  refine AW.getI (pc' := 54) dX3_forgetFirst_51 ly_21 fX3_49 rfl (fun r51 => ?_)
  try simp only [hcpy_app, hset_app, Nat.reduceEqDiff, false_and, and_false, true_and, and_true, reduceIte, Int.reduceToNat] at r51 ⊢
  try simp only [hset_app, Nat.reduceEqDiff, false_and, and_false, true_and, and_true, reduceIte] at r51 ⊢
  refine AW.copyI (pc' := 57) dX3_forgetFirst_54 mlX3_59 ly_24 ly_24 (by first | assumption | omega | (constructor <;> omega) | (simp only [Int.toNat_natCast]; omega) | exact b2_in _) (by first | assumption | omega | (constructor <;> omega) | (simp only [Int.toNat_natCast]; omega) | exact b2_in _) (by first | assumption | omega | (constructor <;> omega) | (simp only [Int.toNat_natCast]; omega) | exact b2_in _) (by first | assumption | omega | (constructor <;> omega) | (simp only [Int.toNat_natCast]; omega) | exact b2_in _) (by first | assumption | omega | (constructor <;> omega) | (simp only [Int.toNat_natCast]; omega) | exact b2_in _) (by decide) (by decide) ?_
  refine AW.aload_n (pc' := 58) dX3_forgetFirst_57 rfl ?_
  refine AW.getR (pc' := 61) dX3_forgetFirst_58 ly_21 fX3_21 rfl ?_
  refine AW.iconst (pc' := 62) dX3_forgetFirst_61 ?_
  refine AW.aload_n (pc' := 63) dX3_forgetFirst_62 rfl ?_
  refine AW.getR (pc' := 66) dX3_forgetFirst_63 ly_21 fX3_21 rfl ?_
  refine AW.iconst (pc' := 67) dX3_forgetFirst_66 ?_
  refine AW.aload_n (pc' := 68) dX3_forgetFirst_67 rfl ?_
  refine AW.getI (pc' := 71) dX3_forgetFirst_68 ly_21 fX3_49 rfl (fun r68 => ?_)
  try simp only [hcpy_app, hset_app, Nat.reduceEqDiff, false_and, and_false, true_and, and_true, reduceIte, Int.reduceToNat] at r68 ⊢
  try simp only [hset_app, Nat.reduceEqDiff, false_and, and_false, true_and, and_true, reduceIte] at r68 ⊢
  refine AW.copyI (pc' := 74) dX3_forgetFirst_71 mlX3_59 ly_25 ly_25 (by first | assumption | omega | (constructor <;> omega) | (simp only [Int.toNat_natCast]; omega) | exact b2_in _) (by first | assumption | omega | (constructor <;> omega) | (simp only [Int.toNat_natCast]; omega) | exact b2_in _) (by first | assumption | omega | (constructor <;> omega) | (simp only [Int.toNat_natCast]; omega) | exact b2_in _) (by first | assumption | omega | (constructor <;> omega) | (simp only [Int.toNat_natCast]; omega) | exact b2_in _) (by first | assumption | omega | (constructor <;> omega) | (simp only [Int.toNat_natCast]; omega) | exact b2_in _) (by decide) (by decide) ?_
  refine AW.vret dX3_forgetFirst_74 ?_ ?_
  all_goals first | rfl | exact congrArg (fun z : Int => (some (vI z) : Option AV)) (b2_t (by omega)) | exact congrArg (fun z : Int => (some (vI z) : Option AV)) (b2_f (by omega)) | ((repeat' split) <;> first | rfl | omega) | (refine congrArg (fun z : Int => (some (vI z) : Option AV)) ?_; (repeat' split) <;> first | rfl | omega)
def fgX (h : Hp) : Hp := hcpy (hcpy (hcpy (hcpy (hset h 21 6 39) 22 22 1 0 39) 23 23 1 0 39) 24 24 1 0 39) 25 25 1 0 39
/-- the heap behind a change that is kept at the end -/
def chX (g : Hp) (a b c d : Int) : Hp := hset (hset (hset (hset (hset (hset (hset g 22 (g 21 6).toNat a) 23 (g 21 6).toNat b) 24 (g 21 6).toNat c) 25 (g 21 6).toNat d) (tblX b) a.toNat d) 21 6 (g 21 6 + 1)) 21 7 (g 21 6 + 1)
theorem fgX_done (h : Hp) : fgX h 21 6 = 39 := by
  simp only [fgX, hcpy_app, hset_app, Nat.reduceEqDiff, false_and, and_false, true_and, and_true, reduceIte]
set_option maxRecDepth 100000 in
set_option maxHeartbeats 4000000 in
theorem tl_X3_come {K : KT}  {dep : Nat} {g : Hp} {a b c d : Int} (q0 : 0 ≤ g 21 6 ∧ g 21 6 < 40) (q1 : 0 ≤ a ∧ a < 120) (q2 : 0 ≤ b ∧ b ≤ 2) (q3 : b = 2 → a < 6) (q4 : inI c) (q5 : inI d) (hd : 1 ≤ dep) :  AW K (XM K none (chX g a b c d)) RX3 cX3_come 5 none dep 13 [some (vR 21), some (vI (a)), some (vI (b)), some (vI (c)), some (vI (d))] [] g := by
  refine AW.aload_n (pc' := 14) dX3_come_13 rfl ?_
  refine AW.getR (pc' := 17) dX3_come_14 ly_21 fX3_9 rfl ?_
  refine AW.aload_n (pc' := 18) dX3_come_17 rfl ?_
  refine AW.getI (pc' := 21) dX3_come_18 ly_21 fX3_49 rfl (fun r18 => ?_)
  refine AW.iload_n (pc' := 22) dX3_come_21 rfl ?_
  first | refine AW.iastN (pc' := 23) dX3_come_22 ly_22 (by first | assumption | omega | (constructor <;> omega) | (simp only [Int.toNat_natCast]; omega) | exact b2_in _) (by decide) (by first | assumption | omega | (constructor <;> omega) | (simp only [Int.toNat_natCast]; omega) | exact b2_in _) ?_ | refine AW.iast (pc' := 23) dX3_come_22 ly_22 (by first | assumption | omega | (constructor <;> omega) | (simp only [Int.toNat_natCast]; omega) | exact b2_in _) (by first | assumption | omega | (constructor <;> omega) | (simp only [Int.toNat_natCast]; omega) | exact b2_in _) (by decide) (by first | assumption | omega | (constructor <;> omega) | (simp only [Int.toNat_natCast]; omega) | exact b2_in _) ?_
  refine AW.aload_n (pc' := 24) dX3_come_23 rfl ?_
  refine AW.getR (pc' := 27) dX3_come_24 ly_21 fX3_15 rfl ?_
  refine AW.aload_n (pc' := 28) dX3_come_27 rfl ?_
  refine AW.getI (pc' := 31) dX3_come_28 ly_21 fX3_49 rfl (fun r28 => ?_)
  try simp only [hset_app, Nat.reduceEqDiff, false_and, and_false, true_and, and_true, reduceIte] at r28 ⊢
  refine AW.iload_n (pc' := 32) dX3_come_31 rfl ?_
  first | refine AW.iastN (pc' := 33) dX3_come_32 ly_23 (by first | assumption | omega | (constructor <;> omega) | (simp only [Int.toNat_natCast]; omega) | exact b2_in _) (by decide) (by first | assumption | omega | (constructor <;> omega) | (simp only [Int.toNat_natCast]; omega) | exact b2_in _) ?_ | refine AW.iast (pc' := 33) dX3_come_32 ly_23 (by first | assumption | omega | (constructor <;> omega) | (simp only [Int.toNat_natCast]; omega) | exact b2_in _) (by first | assumption | omega | (constructor <;> omega) | (simp only [Int.toNat_natCast]; omega) | exact b2_in _) (by decide) (by first | assumption | omega | (constructor <;> omega) | (simp only [Int.toNat_natCast]; omega) | exact b2_in _) ?_
  refine AW.aload_n (pc' := 34) dX3_come_33 rfl ?_
  refine AW.getR (pc' := 37) dX3_come_34 ly_21 fX3_18 rfl ?_
  refine AW.aload_n (pc' := 38) dX3_come_37 rfl ?_
  refine AW.getI (pc' := 41) dX3_come_38 ly_21 fX3_49 rfl (fun r38 => ?_)
  try simp only [hset_app, Nat.reduceEqDiff, false_and, and_false, true_and, and_true, reduceIte] at r38 ⊢
  refine AW.iload_n (pc' := 42) dX3_come_41 rfl ?_
  first | refine AW.iastN (pc' := 43) dX3_come_42 ly_24 (by first | assumption | omega | (constructor <;> omega) | (simp only [Int.toNat_natCast]; omega) | exact b2_in _) (by decide) (by first | assumption | omega | (constructor <;> omega) | (simp only [Int.toNat_natCast]; omega) | exact b2_in _) ?_ | refine AW.iast (pc' := 43) dX3_come_42 ly_24 (by first | assumption | omega | (constructor <;> omega) | (simp only [Int.toNat_natCast]; omega) | exact b2_in _) (by first | assumption | omega | (constructor <;> omega) | (simp only [Int.toNat_natCast]; omega) | exact b2_in _) (by decide) (by first | assumption | omega | (constructor <;> omega) | (simp only [Int.toNat_natCast]; omega) | exact b2_in _) ?_
  refine AW.aload_n (pc' := 44) dX3_come_43 rfl ?_
  refine AW.getR (pc' := 47) dX3_come_44 ly_21 fX3_21 rfl ?_
  refine AW.aload_n (pc' := 48) dX3_come_47 rfl ?_
  refine AW.getI (pc' := 51) dX3_come_48 ly_21 fX3_49 rfl (fun r48 => ?_)
  try simp only [hset_app, Nat.reduceEqDiff, false_and, and_false, true_and, and_true, reduceIte] at r48 ⊢
  refine AW.iload (pc' := 53) dX3_come_51 rfl ?_
  first | refine AW.iastN (pc' := 54) dX3_come_53 ly_25 (by first | assumption | omega | (constructor <;> omega) | (simp only [Int.toNat_natCast]; omega) | exact b2_in _) (by decide) (by first | assumption | omega | (constructor <;> omega) | (simp only [Int.toNat_natCast]; omega) | exact b2_in _) ?_ | refine AW.iast (pc' := 54) dX3_come_53 ly_25 (by first | assumption | omega | (constructor <;> omega) | (simp only [Int.toNat_natCast]; omega) | exact b2_in _) (by first | assumption | omega | (constructor <;> omega) | (simp only [Int.toNat_natCast]; omega) | exact b2_in _) (by decide) (by first | assumption | omega | (constructor <;> omega) | (simp only [Int.toNat_natCast]; omega) | exact b2_in _) ?_
  refine AW.aload_n (pc' := 55) dX3_come_54 rfl ?_
  refine AW.iload_n (pc' := 56) dX3_come_55 rfl ?_
  by_cases v56_0 : b = 0
  · subst v56_0
    refine AW.invV1 (pc' := 59) dX3_come_56 mlX3_45 mX3_table ly_21 rfl (c_X3_table0 (dep := dep - 1)) ?_
    refine AW.iload_n (pc' := 60) dX3_come_59 rfl ?_
    refine AW.iload (pc' := 62) dX3_come_60 rfl ?_
    first | refine AW.iastN (pc' := 63) dX3_come_62 ly_16 (by first | assumption | omega | (constructor <;> omega) | (simp only [Int.toNat_natCast]; omega) | exact b2_in _) (by decide) (by first | assumption | omega | (constructor <;> omega) | (simp only [Int.toNat_natCast]; omega) | exact b2_in _) ?_ | refine AW.iast (pc' := 63) dX3_come_62 ly_16 (by first | assumption | omega | (constructor <;> omega) | (simp only [Int.toNat_natCast]; omega) | exact b2_in _) (by first | assumption | omega | (constructor <;> omega) | (simp only [Int.toNat_natCast]; omega) | exact b2_in _) (by decide) (by first | assumption | omega | (constructor <;> omega) | (simp only [Int.toNat_natCast]; omega) | exact b2_in _) ?_
    refine AW.aload_n (pc' := 64) dX3_come_63 rfl ?_
    refine AW.dup (pc' := 65) dX3_come_64 rfl ?_
    refine AW.getI (pc' := 68) dX3_come_65 ly_21 fX3_49 rfl (fun r65 => ?_)
    try simp only [hset_app, Nat.reduceEqDiff, false_and, and_false, true_and, and_true, reduceIte] at r65 ⊢
    refine AW.iconst (pc' := 69) dX3_come_68 ?_
    refine AW.iadd (pc' := 70) dX3_come_69 ?_
    refine AW.putI (pc' := 73) dX3_come_70 ly_21 pX3_49 rfl (by first | assumption | omega | (constructor <;> omega) | (simp only [Int.toNat_natCast]; omega) | exact b2_in _) ?_
    refine AW.aload_n (pc' := 74) dX3_come_73 rfl ?_
    refine AW.aload_n (pc' := 75) dX3_come_74 rfl ?_
    refine AW.getI (pc' := 78) dX3_come_75 ly_21 fX3_49 rfl (fun r75 => ?_)
    try simp only [hset_app, Nat.reduceEqDiff, false_and, and_false, true_and, and_true, reduceIte] at r75 ⊢
    refine AW.putI (pc' := 81) dX3_come_78 ly_21 pX3_56 rfl (by first | assumption | omega | (constructor <;> omega) | (simp only [Int.toNat_natCast]; omega) | exact b2_in _) ?_
    refine AW.vret dX3_come_81 ?_ ?_
    · rfl
    · rfl
  by_cases v56_1 : b = 1
  · subst v56_1
    refine AW.invV1 (pc' := 59) dX3_come_56 mlX3_45 mX3_table ly_21 rfl (c_X3_table1 (dep := dep - 1)) ?_
    refine AW.iload_n (pc' := 60) dX3_come_59 rfl ?_
    refine AW.iload (pc' := 62) dX3_come_60 rfl ?_
    first | refine AW.iastN (pc' := 63) dX3_come_62 ly_17 (by first | assumption | omega | (constructor <;> omega) | (simp only [Int.toNat_natCast]; omega) | exact b2_in _) (by decide) (by first | assumption | omega | (constructor <;> omega) | (simp only [Int.toNat_natCast]; omega) | exact b2_in _) ?_ | refine AW.iast (pc' := 63) dX3_come_62 ly_17 (by first | assumption | omega | (constructor <;> omega) | (simp only [Int.toNat_natCast]; omega) | exact b2_in _) (by first | assumption | omega | (constructor <;> omega) | (simp only [Int.toNat_natCast]; omega) | exact b2_in _) (by decide) (by first | assumption | omega | (constructor <;> omega) | (simp only [Int.toNat_natCast]; omega) | exact b2_in _) ?_
    refine AW.aload_n (pc' := 64) dX3_come_63 rfl ?_
    refine AW.dup (pc' := 65) dX3_come_64 rfl ?_
    refine AW.getI (pc' := 68) dX3_come_65 ly_21 fX3_49 rfl (fun r65 => ?_)
    try simp only [hset_app, Nat.reduceEqDiff, false_and, and_false, true_and, and_true, reduceIte] at r65 ⊢
    refine AW.iconst (pc' := 69) dX3_come_68 ?_
    refine AW.iadd (pc' := 70) dX3_come_69 ?_
    refine AW.putI (pc' := 73) dX3_come_70 ly_21 pX3_49 rfl (by first | assumption | omega | (constructor <;> omega) | (simp only [Int.toNat_natCast]; omega) | exact b2_in _) ?_
    refine AW.aload_n (pc' := 74) dX3_come_73 rfl ?_
    refine AW.aload_n (pc' := 75) dX3_come_74 rfl ?_
    refine AW.getI (pc' := 78) dX3_come_75 ly_21 fX3_49 rfl (fun r75 => ?_)
    try simp only [hset_app, Nat.reduceEqDiff, false_and, and_false, true_and, and_true, reduceIte] at r75 ⊢
    refine AW.putI (pc' := 81) dX3_come_78 ly_21 pX3_56 rfl (by first | assumption | omega | (constructor <;> omega) | (simp only [Int.toNat_natCast]; omega) | exact b2_in _) ?_
    refine AW.vret dX3_come_81 ?_ ?_
    · rfl
    · rfl
  by_cases v56_2 : b = 2
  · subst v56_2
    refine AW.invV1 (pc' := 59) dX3_come_56 mlX3_45 mX3_table ly_21 rfl (c_X3_table2 (dep := dep - 1)) ?_
    refine AW.iload_n (pc' := 60) dX3_come_59 rfl ?_
    refine AW.iload (pc' := 62) dX3_come_60 rfl ?_
    first | refine AW.iastN (pc' := 63) dX3_come_62 ly_8 (by first | assumption | omega | (constructor <;> omega) | (simp only [Int.toNat_natCast]; omega) | exact b2_in _) (by decide) (by first | assumption | omega | (constructor <;> omega) | (simp only [Int.toNat_natCast]; omega) | exact b2_in _) ?_ | refine AW.iast (pc' := 63) dX3_come_62 ly_8 (by first | assumption | omega | (constructor <;> omega) | (simp only [Int.toNat_natCast]; omega) | exact b2_in _) (by first | assumption | omega | (constructor <;> omega) | (simp only [Int.toNat_natCast]; omega) | exact b2_in _) (by decide) (by first | assumption | omega | (constructor <;> omega) | (simp only [Int.toNat_natCast]; omega) | exact b2_in _) ?_
    refine AW.aload_n (pc' := 64) dX3_come_63 rfl ?_
    refine AW.dup (pc' := 65) dX3_come_64 rfl ?_
    refine AW.getI (pc' := 68) dX3_come_65 ly_21 fX3_49 rfl (fun r65 => ?_)
    try simp only [hset_app, Nat.reduceEqDiff, false_and, and_false, true_and, and_true, reduceIte] at r65 ⊢
    refine AW.iconst (pc' := 69) dX3_come_68 ?_
    refine AW.iadd (pc' := 70) dX3_come_69 ?_
    refine AW.putI (pc' := 73) dX3_come_70 ly_21 pX3_49 rfl (by first | assumption | omega | (constructor <;> omega) | (simp only [Int.toNat_natCast]; omega) | exact b2_in _) ?_
    refine AW.aload_n (pc' := 74) dX3_come_73 rfl ?_
    refine AW.aload_n (pc' := 75) dX3_come_74 rfl ?_
    refine AW.getI (pc' := 78) dX3_come_75 ly_21 fX3_49 rfl (fun r75 => ?_)
    try simp only [hset_app, Nat.reduceEqDiff, false_and, and_false, true_and, and_true, reduceIte] at r75 ⊢
    refine AW.putI (pc' := 81) dX3_come_78 ly_21 pX3_56 rfl (by first | assumption | omega | (constructor <;> omega) | (simp only [Int.toNat_natCast]; omega) | exact b2_in _) ?_
    refine AW.vret dX3_come_81 ?_ ?_
    · rfl
    · rfl
  exfalso
  omega
set_option maxRecDepth 100000 in
set_option maxHeartbeats 4000000 in
theorem c_X3_come {K : KT} {dep : Nat} {h : Hp} {a b c d : Int} (hd : 2 ≤ dep) (q0 : 0 ≤ h 21 6) (q1 : 0 ≤ a ∧ a < 120) (q2 : 0 ≤ b ∧ b ≤ 2) (q3 : b = 2 → a < 6) (q4 : inI c) (q5 : inI d) : AM K yX3_come cX3_come 5 none dep [vR 21, vI a, vI b, vI c, vI d] h none (chX (if 40 ≤ h 21 6 then fgX h else h) a b c d) := by
  refine AM.of (own := RX3) (ls := [some (vR 21), some (vI a), some (vI b), some (vI c), some (vI d)]) rfl (by decide +kernel) (by exact Nat.le_of_ble_eq_true rfl) rfl (fun hO => ?_)
  refine AW.aload_n (pc' := 1) dX3_come_0 rfl ?_
  refine AW.getI (pc' := 4) dX3_come_1 ly_21 fX3_49 rfl (fun r1 => ?_)
  refine AW.bipush (pc' := 6) dX3_come_4 (by decide) ?_
  refine AW.icmp_lt (tgt := 13) (pc' := 9) dX3_come_6 (by first | assumption | omega | (constructor <;> omega) | (simp only [Int.toNat_natCast]; omega) | exact b2_in _) (by first | assumption | omega | (constructor <;> omega) | (simp only [Int.toNat_natCast]; omega) | exact b2_in _) (fun c6 => ?_) (fun c6 => ?_)
  · rw [if_neg (by omega)]
    exact tl_X3_come (by omega) q1 q2 q3 q4 q5 (by omega)
  · refine AW.aload_n (pc' := 10) dX3_come_9 rfl ?_
    refine AW.invV0v (pc' := 13) dX3_come_10 mlX3_53 mX3_forgetFirst ly_21 rfl (c_X3_forgetFirst (dep := dep - 1) (by first | assumption | omega | (constructor <;> omega) | (simp only [Int.toNat_natCast]; omega) | exact b2_in _)) ?_
    rw [if_pos (by omega), show hcpy (hcpy (hcpy (hcpy (hset h 21 6 39) 22 22 1 0 39) 23 23 1 0 39) 24 24 1 0 39) 25 25 1 0 39 = fgX h from rfl]
    exact tl_X3_come (by rw [fgX_done]; decide) q1 q2 q3 q4 q5 (by omega)
set_option maxRecDepth 100000 in
set_option maxHeartbeats 4000000 in
theorem c_X11_undo {K : KT} {dep : Nat} {h : Hp}  (hd : 2 ≤ dep) (q0 : h 21 6 ≤ 40) (q1 : PChg (h 21 6) (h 12 10) (h 6 3) (h 22) (h 23) (h 24) (h 25)) (q2 : h 12 10 ≤ 120) (q3 : h 6 3 ≤ 6) : AM K yX11_undo cX11_undo 1 (some .int) dep [vR 0] h (some (vI (if h 21 6 ≤ 0 then -5 else h 21 6 - 1))) (if h 21 6 ≤ 0 then h else hset (hset h 21 6 (h 21 6 - 1)) (tblX (h 23 (h 21 6 - 1).toNat)) (h 22 (h 21 6 - 1).toNat).toNat (h 24 (h 21 6 - 1).toNat)) := by
  refine AM.of (own := RX11) (ls := [some (vR 0)]) rfl (by decide +kernel) (by exact Nat.le_of_ble_eq_true rfl) rfl (fun hO => ?_)
  refine AW.aload_n (pc' := 1) dX11_undo_0 rfl ?_
  refine AW.getR (pc' := 4) dX11_undo_1 ly_0 fX11_44 rfl ?_
  refine AW.invV0 (pc' := 7) dX11_undo_4 mlX11_291 mX3_back ly_21 rfl (c_X3_back (dep := dep - 1) (by first | assumption | omega | (constructor <;> omega) | (simp only [Int.toNat_natCast]; omega) | exact b2_in _) (by first | assumption | omega | (constructor <;> omega) | (simp only [Int.toNat_natCast]; omega) | exact b2_in _) (by first | assumption | omega | (constructor <;> omega) | (simp only [Int.toNat_natCast]; omega) | exact b2_in _) (by first | assumption | omega | (constructor <;> omega) | (simp only [Int.toNat_natCast]; omega) | exact b2_in _) (by first | assumption | omega | (constructor <;> omega) | (simp only [Int.toNat_natCast]; omega) | exact b2_in _)) ?_
  refine AW.iret dX11_undo_7 ?_ ?_
  all_goals first | rfl | exact congrArg (fun z : Int => (some (vI z) : Option AV)) (b2_t (by omega)) | exact congrArg (fun z : Int => (some (vI z) : Option AV)) (b2_f (by omega)) | ((repeat' split) <;> first | rfl | omega) | (refine congrArg (fun z : Int => (some (vI z) : Option AV)) ?_; (repeat' split) <;> first | rfl | omega)
set_option maxRecDepth 100000 in
set_option maxHeartbeats 4000000 in
theorem c_X11_redo {K : KT} {dep : Nat} {h : Hp}  (hd : 2 ≤ dep) (q0 : 0 ≤ h 21 6 ∧ h 21 7 ≤ 40) (q1 : PChg (h 21 7) (h 12 10) (h 6 3) (h 22) (h 23) (h 24) (h 25)) (q2 : h 12 10 ≤ 120) (q3 : h 6 3 ≤ 6) : AM K yX11_redo cX11_redo 1 (some .int) dep [vR 0] h (some (vI (if h 21 7 ≤ h 21 6 then -5 else h 21 7 - (h 21 6 + 1)))) (if h 21 7 ≤ h 21 6 then h else hset (hset h (tblX (h 23 (h 21 6).toNat)) (h 22 (h 21 6).toNat).toNat (h 25 (h 21 6).toNat)) 21 6 (h 21 6 + 1)) := by
  refine AM.of (own := RX11) (ls := [some (vR 0)]) rfl (by decide +kernel) (by exact Nat.le_of_ble_eq_true rfl) rfl (fun hO => ?_)
  refine AW.aload_n (pc' := 1) dX11_redo_0 rfl ?_
  refine AW.getR (pc' := 4) dX11_redo_1 ly_0 fX11_44 rfl ?_
  refine AW.invV0 (pc' := 7) dX11_redo_4 mlX11_294 mX3_again ly_21 rfl (c_X3_again (dep := dep - 1) (by first | assumption | omega | (constructor <;> omega) | (simp only [Int.toNat_natCast]; omega) | exact b2_in _) (by first | assumption | omega | (constructor <;> omega) | (simp only [Int.toNat_natCast]; omega) | exact b2_in _) (by first | assumption | omega | (constructor <;> omega) | (simp only [Int.toNat_natCast]; omega) | exact b2_in _) (by first | assumption | omega | (constructor <;> omega) | (simp only [Int.toNat_natCast]; omega) | exact b2_in _) (by first | assumption | omega | (constructor <;> omega) | (simp only [Int.toNat_natCast]; omega) | exact b2_in _)) ?_
  refine AW.iret dX11_redo_7 ?_ ?_
  all_goals first | rfl | exact congrArg (fun z : Int => (some (vI z) : Option AV)) (b2_t (by omega)) | exact congrArg (fun z : Int => (some (vI z) : Option AV)) (b2_f (by omega)) | ((repeat' split) <;> first | rfl | omega) | (refine congrArg (fun z : Int => (some (vI z) : Option AV)) ?_; (repeat' split) <;> first | rfl | omega)
abbrev mP (nr ns a b v : Int) : Prop := (b = 0 ∧ (0 ≤ a ∧ a < nr) ∧ 10 ≤ v ∧ v ≤ 29999) ∨ (b = 1 ∧ (0 ≤ a ∧ a < nr) ∧ (v = -1 ∨ 0 ≤ v ∧ v < ns)) ∨ (b = 2 ∧ (0 ≤ a ∧ a < ns) ∧ a ≠ 0 ∧ -99 ≤ v ∧ v ≤ 99)
theorem tblX_in {h : Hp} (hO : HOK h) (w : Int) (j : Nat) : inI (h (tblX w) j) := by
  unfold tblX
  (repeat' split)
  · exact hO.ints ly_16 j
  · exact hO.ints ly_17 j
  · exact hO.ints ly_8 j
theorem tblM_in {h : Hp} (hO : HOK h) (w : Int) (j : Nat) : inI (h (tblM w) j) := by
  unfold tblM
  (repeat' split)
  · exact hO.ints ly_69 j
  · exact hO.ints ly_70 j
  · exact hO.ints ly_63 j
set_option maxRecDepth 100000 in
set_option maxHeartbeats 4000000 in
theorem c_X11_isMending {K : KT} {dep : Nat} {h : Hp} {a b v : Int} (hd : 1 ≤ dep) (q0 : inI a) (q1 : inI b) (q2 : inI v) : AM K yX11_isMending cX11_isMending 4 (some .boolean) dep [vR 0, vI a, vI b, vI v] h (some (vI (b2 (mP (h 12 10) (h 6 3) a b v)))) (h) := by
  refine AM.of (own := RX11) (ls := [some (vR 0), some (vI a), some (vI b), some (vI v)]) rfl (by decide +kernel) (by exact Nat.le_of_ble_eq_true rfl) rfl (fun hO => ?_)
  refine AW.iload_n (pc' := 1) dX11_isMending_0 rfl ?_
  by_cases s1_0 : b = 0
  · refine AW.top s1_0 ?_
    refine AW.tableIn (tgt := 28) (off := 27) dX11_isMending_1 (by decide) (by decide) (by decide) rfl ?_
    refine AW.aload_n (pc' := 29) dX11_isMending_28 rfl ?_
    refine AW.getR (pc' := 32) dX11_isMending_29 ly_0 fX11_35 rfl ?_
    refine AW.iload_n (pc' := 33) dX11_isMending_32 rfl ?_
    refine AW.invV1 (pc' := 36) dX11_isMending_33 mlX11_135 mX7_has ly_12 rfl (c_X7_has (dep := dep - 1) (by first | assumption | omega | (constructor <;> omega) | (simp only [Int.toNat_natCast]; omega) | exact b2_in _)) ?_
    refine AW.ifb_eq (tgt := 55) (pc' := 39) dX11_isMending_36 (fun c36 => ?_) (fun c36 => ?_)
    · refine AW.iconst (pc' := 56) dX11_isMending_55 ?_
      refine AW.zret dX11_isMending_56 ?_ ?_ (by first | exact Or.inl rfl | exact Or.inr rfl | exact b2_01 _ | assumption | (subst_vars; omega))
      all_goals first | rfl | exact congrArg (fun z : Int => (some (vI z) : Option AV)) (b2_t (by omega)) | exact congrArg (fun z : Int => (some (vI z) : Option AV)) (b2_f (by omega)) | ((repeat' split) <;> first | rfl | omega) | (refine congrArg (fun z : Int => (some (vI z) : Option AV)) ?_; (repeat' split) <;> first | rfl | omega)
    · refine AW.iload_n (pc' := 40) dX11_isMending_39 rfl ?_
      refine AW.bipush (pc' := 42) dX11_isMending_40 (by decide) ?_
      refine AW.sipush (pc' := 45) dX11_isMending_42 (by decide) ?_
      refine AW.invS3 (pc' := 48) dX11_isMending_45 mlX11_89 mX11_within (c_X11_within (dep := dep - 1) (by first | assumption | omega | (constructor <;> omega) | (simp only [Int.toNat_natCast]; omega) | exact b2_in _) (by first | assumption | omega | (constructor <;> omega) | (simp only [Int.toNat_natCast]; omega) | exact b2_in _) (by first | assumption | omega | (constructor <;> omega) | (simp only [Int.toNat_natCast]; omega) | exact b2_in _)) ?_
      refine AW.ifb_eq (tgt := 55) (pc' := 51) dX11_isMending_48 (fun c48 => ?_) (fun c48 => ?_)
      · refine AW.iconst (pc' := 56) dX11_isMending_55 ?_
        refine AW.zret dX11_isMending_56 ?_ ?_ (by first | exact Or.inl rfl | exact Or.inr rfl | exact b2_01 _ | assumption | (subst_vars; omega))
        all_goals first | rfl | exact congrArg (fun z : Int => (some (vI z) : Option AV)) (b2_t (by omega)) | exact congrArg (fun z : Int => (some (vI z) : Option AV)) (b2_f (by omega)) | ((repeat' split) <;> first | rfl | omega) | (refine congrArg (fun z : Int => (some (vI z) : Option AV)) ?_; (repeat' split) <;> first | rfl | omega)
      · refine AW.iconst (pc' := 52) dX11_isMending_51 ?_
        refine AW.goto (tgt := 56) dX11_isMending_52 ?_
        refine AW.zret dX11_isMending_56 ?_ ?_ (by first | exact Or.inl rfl | exact Or.inr rfl | exact b2_01 _ | assumption | (subst_vars; omega))
        all_goals first | rfl | exact congrArg (fun z : Int => (some (vI z) : Option AV)) (b2_t (by omega)) | exact congrArg (fun z : Int => (some (vI z) : Option AV)) (b2_f (by omega)) | ((repeat' split) <;> first | rfl | omega) | (refine congrArg (fun z : Int => (some (vI z) : Option AV)) ?_; (repeat' split) <;> first | rfl | omega)
  by_cases s1_1 : b = 1
  · refine AW.top s1_1 ?_
    refine AW.tableIn (tgt := 57) (off := 56) dX11_isMending_1 (by decide) (by decide) (by decide) rfl ?_
    refine AW.aload_n (pc' := 58) dX11_isMending_57 rfl ?_
    refine AW.getR (pc' := 61) dX11_isMending_58 ly_0 fX11_35 rfl ?_
    refine AW.iload_n (pc' := 62) dX11_isMending_61 rfl ?_
    refine AW.invV1 (pc' := 65) dX11_isMending_62 mlX11_135 mX7_has ly_12 rfl (c_X7_has (dep := dep - 1) (by first | assumption | omega | (constructor <;> omega) | (simp only [Int.toNat_natCast]; omega) | exact b2_in _)) ?_
    refine AW.ifb_eq (tgt := 88) (pc' := 68) dX11_isMending_65 (fun c65 => ?_) (fun c65 => ?_)
    · refine AW.iconst (pc' := 89) dX11_isMending_88 ?_
      refine AW.zret dX11_isMending_89 ?_ ?_ (by first | exact Or.inl rfl | exact Or.inr rfl | exact b2_01 _ | assumption | (subst_vars; omega))
      all_goals first | rfl | exact congrArg (fun z : Int => (some (vI z) : Option AV)) (b2_t (by omega)) | exact congrArg (fun z : Int => (some (vI z) : Option AV)) (b2_f (by omega)) | ((repeat' split) <;> first | rfl | omega) | (refine congrArg (fun z : Int => (some (vI z) : Option AV)) ?_; (repeat' split) <;> first | rfl | omega)
    · refine AW.iload_n (pc' := 69) dX11_isMending_68 rfl ?_
      refine AW.iconst (pc' := 70) dX11_isMending_69 ?_
      refine AW.icmp_eq (tgt := 84) (pc' := 73) dX11_isMending_70 (by first | assumption | omega | (constructor <;> omega) | (simp only [Int.toNat_natCast]; omega) | exact b2_in _) (by first | assumption | omega | (constructor <;> omega) | (simp only [Int.toNat_natCast]; omega) | exact b2_in _) (fun c70 => ?_) (fun c70 => ?_)
      · refine AW.iconst (pc' := 85) dX11_isMending_84 ?_
        refine AW.goto (tgt := 89) dX11_isMending_85 ?_
        refine AW.zret dX11_isMending_89 ?_ ?_ (by first | exact Or.inl rfl | exact Or.inr rfl | exact b2_01 _ | assumption | (subst_vars; omega))
        all_goals first | rfl | exact congrArg (fun z : Int => (some (vI z) : Option AV)) (b2_t (by omega)) | exact congrArg (fun z : Int => (some (vI z) : Option AV)) (b2_f (by omega)) | ((repeat' split) <;> first | rfl | omega) | (refine congrArg (fun z : Int => (some (vI z) : Option AV)) ?_; (repeat' split) <;> first | rfl | omega)
      · refine AW.aload_n (pc' := 74) dX11_isMending_73 rfl ?_
        refine AW.getR (pc' := 77) dX11_isMending_74 ly_0 fX11_19 rfl ?_
        refine AW.iload_n (pc' := 78) dX11_isMending_77 rfl ?_
        refine AW.invV1 (pc' := 81) dX11_isMending_78 mlX11_134 mX9_has ly_6 rfl (c_X9_has (dep := dep - 1) (by first | assumption | omega | (constructor <;> omega) | (simp only [Int.toNat_natCast]; omega) | exact b2_in _)) ?_
        refine AW.ifb_eq (tgt := 88) (pc' := 84) dX11_isMending_81 (fun c81 => ?_) (fun c81 => ?_)
        · refine AW.iconst (pc' := 89) dX11_isMending_88 ?_
          refine AW.zret dX11_isMending_89 ?_ ?_ (by first | exact Or.inl rfl | exact Or.inr rfl | exact b2_01 _ | assumption | (subst_vars; omega))
          all_goals first | rfl | exact congrArg (fun z : Int => (some (vI z) : Option AV)) (b2_t (by omega)) | exact congrArg (fun z : Int => (some (vI z) : Option AV)) (b2_f (by omega)) | ((repeat' split) <;> first | rfl | omega) | (refine congrArg (fun z : Int => (some (vI z) : Option AV)) ?_; (repeat' split) <;> first | rfl | omega)
        · refine AW.iconst (pc' := 85) dX11_isMending_84 ?_
          refine AW.goto (tgt := 89) dX11_isMending_85 ?_
          refine AW.zret dX11_isMending_89 ?_ ?_ (by first | exact Or.inl rfl | exact Or.inr rfl | exact b2_01 _ | assumption | (subst_vars; omega))
          all_goals first | rfl | exact congrArg (fun z : Int => (some (vI z) : Option AV)) (b2_t (by omega)) | exact congrArg (fun z : Int => (some (vI z) : Option AV)) (b2_f (by omega)) | ((repeat' split) <;> first | rfl | omega) | (refine congrArg (fun z : Int => (some (vI z) : Option AV)) ?_; (repeat' split) <;> first | rfl | omega)
  by_cases s1_2 : b = 2
  · refine AW.top s1_2 ?_
    refine AW.tableIn (tgt := 90) (off := 89) dX11_isMending_1 (by decide) (by decide) (by decide) rfl ?_
    refine AW.aload_n (pc' := 91) dX11_isMending_90 rfl ?_
    refine AW.getR (pc' := 94) dX11_isMending_91 ly_0 fX11_19 rfl ?_
    refine AW.iload_n (pc' := 95) dX11_isMending_94 rfl ?_
    refine AW.invV1 (pc' := 98) dX11_isMending_95 mlX11_134 mX9_has ly_6 rfl (c_X9_has (dep := dep - 1) (by first | assumption | omega | (constructor <;> omega) | (simp only [Int.toNat_natCast]; omega) | exact b2_in _)) ?_
    refine AW.ifb_eq (tgt := 120) (pc' := 101) dX11_isMending_98 (fun c98 => ?_) (fun c98 => ?_)
    · refine AW.iconst (pc' := 121) dX11_isMending_120 ?_
      refine AW.zret dX11_isMending_121 ?_ ?_ (by first | exact Or.inl rfl | exact Or.inr rfl | exact b2_01 _ | assumption | (subst_vars; omega))
      all_goals first | rfl | exact congrArg (fun z : Int => (some (vI z) : Option AV)) (b2_t (by omega)) | exact congrArg (fun z : Int => (some (vI z) : Option AV)) (b2_f (by omega)) | ((repeat' split) <;> first | rfl | omega) | (refine congrArg (fun z : Int => (some (vI z) : Option AV)) ?_; (repeat' split) <;> first | rfl | omega)
    · refine AW.iload_n (pc' := 102) dX11_isMending_101 rfl ?_
      refine AW.if_eq (tgt := 120) (pc' := 105) dX11_isMending_102 (by first | assumption | omega | (constructor <;> omega) | (simp only [Int.toNat_natCast]; omega) | exact b2_in _) (fun c102 => ?_) (fun c102 => ?_)
      · refine AW.iconst (pc' := 121) dX11_isMending_120 ?_
        refine AW.zret dX11_isMending_121 ?_ ?_ (by first | exact Or.inl rfl | exact Or.inr rfl | exact b2_01 _ | assumption | (subst_vars; omega))
        all_goals first | rfl | exact congrArg (fun z : Int => (some (vI z) : Option AV)) (b2_t (by omega)) | exact congrArg (fun z : Int => (some (vI z) : Option AV)) (b2_f (by omega)) | ((repeat' split) <;> first | rfl | omega) | (refine congrArg (fun z : Int => (some (vI z) : Option AV)) ?_; (repeat' split) <;> first | rfl | omega)
      · refine AW.iload_n (pc' := 106) dX11_isMending_105 rfl ?_
        refine AW.bipush (pc' := 108) dX11_isMending_106 (by decide) ?_
        refine AW.bipush (pc' := 110) dX11_isMending_108 (by decide) ?_
        refine AW.invS3 (pc' := 113) dX11_isMending_110 mlX11_89 mX11_within (c_X11_within (dep := dep - 1) (by first | assumption | omega | (constructor <;> omega) | (simp only [Int.toNat_natCast]; omega) | exact b2_in _) (by first | assumption | omega | (constructor <;> omega) | (simp only [Int.toNat_natCast]; omega) | exact b2_in _) (by first | assumption | omega | (constructor <;> omega) | (simp only [Int.toNat_natCast]; omega) | exact b2_in _)) ?_
        refine AW.ifb_eq (tgt := 120) (pc' := 116) dX11_isMending_113 (fun c113 => ?_) (fun c113 => ?_)
        · refine AW.iconst (pc' := 121) dX11_isMending_120 ?_
          refine AW.zret dX11_isMending_121 ?_ ?_ (by first | exact Or.inl rfl | exact Or.inr rfl | exact b2_01 _ | assumption | (subst_vars; omega))
          all_goals first | rfl | exact congrArg (fun z : Int => (some (vI z) : Option AV)) (b2_t (by omega)) | exact congrArg (fun z : Int => (some (vI z) : Option AV)) (b2_f (by omega)) | ((repeat' split) <;> first | rfl | omega) | (refine congrArg (fun z : Int => (some (vI z) : Option AV)) ?_; (repeat' split) <;> first | rfl | omega)
        · refine AW.iconst (pc' := 117) dX11_isMending_116 ?_
          refine AW.goto (tgt := 121) dX11_isMending_117 ?_
          refine AW.zret dX11_isMending_121 ?_ ?_ (by first | exact Or.inl rfl | exact Or.inr rfl | exact b2_01 _ | assumption | (subst_vars; omega))
          all_goals first | rfl | exact congrArg (fun z : Int => (some (vI z) : Option AV)) (b2_t (by omega)) | exact congrArg (fun z : Int => (some (vI z) : Option AV)) (b2_f (by omega)) | ((repeat' split) <;> first | rfl | omega) | (refine congrArg (fun z : Int => (some (vI z) : Option AV)) ?_; (repeat' split) <;> first | rfl | omega)
  refine AW.tableOut (tgt := 122) dX11_isMending_1 (by first | assumption | omega | (constructor <;> omega) | (simp only [Int.toNat_natCast]; omega) | exact b2_in _) (by omega) ?_
  refine AW.iconst (pc' := 123) dX11_isMending_122 ?_
  refine AW.zret dX11_isMending_123 ?_ ?_ (by first | exact Or.inl rfl | exact Or.inr rfl | exact b2_01 _ | assumption | (subst_vars; omega))
  all_goals first | rfl | exact congrArg (fun z : Int => (some (vI z) : Option AV)) (b2_t (by omega)) | exact congrArg (fun z : Int => (some (vI z) : Option AV)) (b2_f (by omega)) | ((repeat' split) <;> first | rfl | omega) | (refine congrArg (fun z : Int => (some (vI z) : Option AV)) ?_; (repeat' split) <;> first | rfl | omega)
set_option maxRecDepth 100000 in
set_option maxHeartbeats 4000000 in
theorem c_X11_mend {K : KT} {dep : Nat} {h : Hp} {a b v : Int} (hd : 3 ≤ dep) (q0 : 0 ≤ h 21 6) (q1 : h 12 10 ≤ 120) (q2 : h 6 3 ≤ 6) (q3 : inI a) (q4 : inI b) (q5 : inI v) : AM K yX11_mend cX11_mend 5 (some .int) dep [vR 0, vI a, vI b, vI v] h (some (vI (if ¬ mP (h 12 10) (h 6 3) a b v then -2000000000 else h (tblX b) a.toNat))) (if ¬ mP (h 12 10) (h 6 3) a b v then h else if v = h (tblX b) a.toNat then h else chX (if 40 ≤ h 21 6 then fgX h else h) a b (h (tblX b) a.toNat) v) := by
  refine AM.of (own := RX11) (ls := [some (vR 0), some (vI a), some (vI b), some (vI v), none]) rfl (by decide +kernel) (by exact Nat.le_of_ble_eq_true rfl) rfl (fun hO => ?_)
  have ci := tblX_in hO b a.toNat
  refine AW.aload_n (pc' := 1) dX11_mend_0 rfl ?_
  refine AW.iload_n (pc' := 2) dX11_mend_1 rfl ?_
  refine AW.iload_n (pc' := 3) dX11_mend_2 rfl ?_
  refine AW.iload_n (pc' := 4) dX11_mend_3 rfl ?_
  refine AW.invV3 (pc' := 7) dX11_mend_4 mlX11_158 mX11_isMending ly_0 rfl (c_X11_isMending (dep := dep - 1) (by first | assumption | omega | (constructor <;> omega) | (simp only [Int.toNat_natCast]; omega) | exact b2_in _) (by first | assumption | omega | (constructor <;> omega) | (simp only [Int.toNat_natCast]; omega) | exact b2_in _) (by first | assumption | omega | (constructor <;> omega) | (simp only [Int.toNat_natCast]; omega) | exact b2_in _) (by first | assumption | omega | (constructor <;> omega) | (simp only [Int.toNat_natCast]; omega) | exact b2_in _)) ?_
  refine AW.ifb_ne (tgt := 13) (pc' := 10) dX11_mend_7 (fun c7 => ?_) (fun c7 => ?_)
  · have c8 : 0 ≤ a ∧ a < 120 ∧ 0 ≤ b ∧ b ≤ 2 ∧ (b = 2 → a < 6) := by omega
    refine AW.aload_n (pc' := 14) dX11_mend_13 rfl ?_
    refine AW.getR (pc' := 17) dX11_mend_14 ly_0 fX11_44 rfl ?_
    refine AW.iload_n (pc' := 18) dX11_mend_17 rfl ?_
    refine AW.iload_n (pc' := 19) dX11_mend_18 rfl ?_
    refine AW.invV2 (pc' := 22) dX11_mend_19 mlX11_161 mX3_current ly_21 rfl (c_X3_current (dep := dep - 1) (by first | assumption | omega | (constructor <;> omega) | (simp only [Int.toNat_natCast]; omega) | exact b2_in _) (by first | assumption | omega | (constructor <;> omega) | (simp only [Int.toNat_natCast]; omega) | exact b2_in _) (by first | assumption | omega | (constructor <;> omega) | (simp only [Int.toNat_natCast]; omega) | exact b2_in _) (by first | assumption | omega | (constructor <;> omega) | (simp only [Int.toNat_natCast]; omega) | exact b2_in _)) ?_
    refine AW.istore4 (pc' := 24) dX11_mend_22 (by decide) rfl ?_
    refine AW.iload_n (pc' := 25) dX11_mend_24 rfl ?_
    refine AW.iload (pc' := 27) dX11_mend_25 rfl ?_
    refine AW.icmp_eq (tgt := 42) (pc' := 30) dX11_mend_27 (by first | assumption | omega | (constructor <;> omega) | (simp only [Int.toNat_natCast]; omega) | exact b2_in _) (by first | assumption | omega | (constructor <;> omega) | (simp only [Int.toNat_natCast]; omega) | exact b2_in _) (fun c27 => ?_) (fun c27 => ?_)
    · refine AW.iload (pc' := 44) dX11_mend_42 rfl ?_
      refine AW.iret dX11_mend_44 ?_ ?_
      · first | (rw [if_pos (by assumption)]; done) | (rw [if_neg (by omega)])
      · first | (rw [if_pos (by assumption)]; done) | (rw [if_neg (by omega), if_pos (by assumption)]; done) | (rw [if_neg (by omega), if_neg (by assumption)])
    · refine AW.aload_n (pc' := 31) dX11_mend_30 rfl ?_
      refine AW.getR (pc' := 34) dX11_mend_31 ly_0 fX11_44 rfl ?_
      refine AW.iload_n (pc' := 35) dX11_mend_34 rfl ?_
      refine AW.iload_n (pc' := 36) dX11_mend_35 rfl ?_
      refine AW.iload (pc' := 38) dX11_mend_36 rfl ?_
      refine AW.iload_n (pc' := 39) dX11_mend_38 rfl ?_
      refine AW.invV4v (pc' := 42) dX11_mend_39 mlX11_165 mX3_come ly_21 rfl (c_X3_come (dep := dep - 1) (by first | assumption | omega | (constructor <;> omega) | (simp only [Int.toNat_natCast]; omega) | exact b2_in _) (by first | assumption | omega | (constructor <;> omega) | (simp only [Int.toNat_natCast]; omega) | exact b2_in _) (by first | assumption | omega | (constructor <;> omega) | (simp only [Int.toNat_natCast]; omega) | exact b2_in _) (by first | assumption | omega | (constructor <;> omega) | (simp only [Int.toNat_natCast]; omega) | exact b2_in _) (by first | assumption | omega | (constructor <;> omega) | (simp only [Int.toNat_natCast]; omega) | exact b2_in _) (by first | assumption | omega | (constructor <;> omega) | (simp only [Int.toNat_natCast]; omega) | exact b2_in _) (by first | assumption | omega | (constructor <;> omega) | (simp only [Int.toNat_natCast]; omega) | exact b2_in _)) ?_
      refine AW.iload (pc' := 44) dX11_mend_42 rfl ?_
      refine AW.iret dX11_mend_44 ?_ ?_
      · first | (rw [if_pos (by assumption)]; done) | (rw [if_neg (by omega)])
      · first | (rw [if_pos (by assumption)]; done) | (rw [if_neg (by omega), if_pos (by assumption)]; done) | (rw [if_neg (by omega), if_neg (by assumption)])
  · refine AW.ldc (v := -2000000000) (pc' := 12) dX11_mend_10 kX11_136 ?_
    refine AW.iret dX11_mend_12 ?_ ?_
    · first | (rw [if_pos (by assumption)]; done) | (rw [if_neg (by omega)])
    · first | (rw [if_pos (by assumption)]; done) | (rw [if_neg (by omega), if_pos (by assumption)]; done) | (rw [if_neg (by omega), if_neg (by assumption)])
