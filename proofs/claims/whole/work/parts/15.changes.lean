/-! changes: mend, undo, redo -/
def tblX (w : Int) : Nat := if w = 0 then 16 else if w = 1 then 17 else 8
def tblM (w : Int) : Nat := if w = 0 then 69 else if w = 1 then 70 else 63
theorem tblM_ne (w : Int) : tblM w ≠ 57 := by unfold tblM; (repeat' split) <;> decide
theorem tblX_ne (w : Int) : tblX w ≠ 21 := by unfold tblX; (repeat' split) <;> decide
/-- what a change may say -/
def okC (runs shoes nu w be : Int) : Prop := (w = 0 ∧ 0 ≤ nu ∧ nu < runs ∧ 10 ≤ be ∧ be ≤ 29999) ∨ (w = 1 ∧ 0 ≤ nu ∧ nu < runs ∧ -1 ≤ be ∧ be < shoes) ∨ (w = 2 ∧ 1 ≤ nu ∧ nu < shoes ∧ -99 ≤ be ∧ be ≤ 99)
def PChg (n runs shoes : Int) (nu wh be af : Nat → Int) : Prop := ∀ k : Nat, (k : Int) < n → okC runs shoes (nu k) (wh k) (be k) ∧ okC runs shoes (nu k) (wh k) (af k)
theorem okC_in {runs shoes nu w be : Int} (h : okC runs shoes nu w be) (hr : runs ≤ 120) (hs : shoes ≤ 6) : 0 ≤ nu ∧ nu < 120 ∧ 0 ≤ w ∧ w ≤ 2 ∧ (w = 2 → nu < 6) ∧ -99 ≤ be ∧ be ≤ 29999 := by
  unfold okC at h
  omega
set_option maxRecDepth 100000 in
set_option maxHeartbeats 4000000 in
theorem c_X3_table0 {K : KT} {dep : Nat} {h : Hp}    : AM K yX3_table cX3_table 2 (some (.array .int)) dep [vR 21, vI 0] h (some (vR 16)) (h) := by
  refine AM.of (own := RX3) (ls := [some (vR 21), some (vI 0)]) rfl (by decide +kernel) (by exact Nat.le_of_ble_eq_true rfl) rfl (fun hO => ?_)
  refine AW.iload_n (pc' := 1) dX3_table_0 rfl ?_
  refine AW.if_ne (tgt := 14) (pc' := 4) dX3_table_1 (by first | assumption | omega | (constructor <;> omega) | (simp only [Int.toNat_natCast]; omega) | exact b2_in _) (fun c1 => ?_) (fun c1 => ?_)
  · refine AW.iload_n (pc' := 15) dX3_table_14 rfl ?_
    refine AW.iconst (pc' := 16) dX3_table_15 ?_
    refine AW.icmp_ne (tgt := 29) (pc' := 19) dX3_table_16 (by first | assumption | omega | (constructor <;> omega) | (simp only [Int.toNat_natCast]; omega) | exact b2_in _) (by first | assumption | omega | (constructor <;> omega) | (simp only [Int.toNat_natCast]; omega) | exact b2_in _) (fun c16 => ?_) (fun c16 => ?_)
    · refine AW.aload_n (pc' := 30) dX3_table_29 rfl ?_
      refine AW.getR (pc' := 33) dX3_table_30 ly_21 fX3_28 rfl ?_
      refine AW.getR (pc' := 36) dX3_table_33 ly_6 fX3_40 rfl ?_
      refine AW.aret dX3_table_36 ?_ ?_
      all_goals first | rfl | exact congrArg (fun z : Int => (some (vI z) : Option AV)) (b2_t (by omega)) | exact congrArg (fun z : Int => (some (vI z) : Option AV)) (b2_f (by omega)) | ((repeat' split) <;> first | rfl | omega) | (refine congrArg (fun z : Int => (some (vI z) : Option AV)) ?_; (repeat' split) <;> first | rfl | omega)
    · refine AW.aload_n (pc' := 20) dX3_table_19 rfl ?_
      refine AW.getR (pc' := 23) dX3_table_20 ly_21 fX3_24 rfl ?_
      refine AW.getR (pc' := 26) dX3_table_23 ly_12 fX3_37 rfl ?_
      refine AW.goto (tgt := 36) dX3_table_26 ?_
      refine AW.aret dX3_table_36 ?_ ?_
      all_goals first | rfl | exact congrArg (fun z : Int => (some (vI z) : Option AV)) (b2_t (by omega)) | exact congrArg (fun z : Int => (some (vI z) : Option AV)) (b2_f (by omega)) | ((repeat' split) <;> first | rfl | omega) | (refine congrArg (fun z : Int => (some (vI z) : Option AV)) ?_; (repeat' split) <;> first | rfl | omega)
  · refine AW.aload_n (pc' := 5) dX3_table_4 rfl ?_
    refine AW.getR (pc' := 8) dX3_table_5 ly_21 fX3_24 rfl ?_
    refine AW.getR (pc' := 11) dX3_table_8 ly_12 fX3_32 rfl ?_
    refine AW.goto (tgt := 36) dX3_table_11 ?_
    refine AW.aret dX3_table_36 ?_ ?_
    all_goals first | rfl | exact congrArg (fun z : Int => (some (vI z) : Option AV)) (b2_t (by omega)) | exact congrArg (fun z : Int => (some (vI z) : Option AV)) (b2_f (by omega)) | ((repeat' split) <;> first | rfl | omega) | (refine congrArg (fun z : Int => (some (vI z) : Option AV)) ?_; (repeat' split) <;> first | rfl | omega)
set_option maxRecDepth 100000 in
set_option maxHeartbeats 4000000 in
theorem c_X3_table1 {K : KT} {dep : Nat} {h : Hp}    : AM K yX3_table cX3_table 2 (some (.array .int)) dep [vR 21, vI 1] h (some (vR 17)) (h) := by
  refine AM.of (own := RX3) (ls := [some (vR 21), some (vI 1)]) rfl (by decide +kernel) (by exact Nat.le_of_ble_eq_true rfl) rfl (fun hO => ?_)
  refine AW.iload_n (pc' := 1) dX3_table_0 rfl ?_
  refine AW.if_ne (tgt := 14) (pc' := 4) dX3_table_1 (by first | assumption | omega | (constructor <;> omega) | (simp only [Int.toNat_natCast]; omega) | exact b2_in _) (fun c1 => ?_) (fun c1 => ?_)
  · refine AW.iload_n (pc' := 15) dX3_table_14 rfl ?_
    refine AW.iconst (pc' := 16) dX3_table_15 ?_
    refine AW.icmp_ne (tgt := 29) (pc' := 19) dX3_table_16 (by first | assumption | omega | (constructor <;> omega) | (simp only [Int.toNat_natCast]; omega) | exact b2_in _) (by first | assumption | omega | (constructor <;> omega) | (simp only [Int.toNat_natCast]; omega) | exact b2_in _) (fun c16 => ?_) (fun c16 => ?_)
    · refine AW.aload_n (pc' := 30) dX3_table_29 rfl ?_
      refine AW.getR (pc' := 33) dX3_table_30 ly_21 fX3_28 rfl ?_
      refine AW.getR (pc' := 36) dX3_table_33 ly_6 fX3_40 rfl ?_
      refine AW.aret dX3_table_36 ?_ ?_
      all_goals first | rfl | exact congrArg (fun z : Int => (some (vI z) : Option AV)) (b2_t (by omega)) | exact congrArg (fun z : Int => (some (vI z) : Option AV)) (b2_f (by omega)) | ((repeat' split) <;> first | rfl | omega) | (refine congrArg (fun z : Int => (some (vI z) : Option AV)) ?_; (repeat' split) <;> first | rfl | omega)
    · refine AW.aload_n (pc' := 20) dX3_table_19 rfl ?_
      refine AW.getR (pc' := 23) dX3_table_20 ly_21 fX3_24 rfl ?_
      refine AW.getR (pc' := 26) dX3_table_23 ly_12 fX3_37 rfl ?_
      refine AW.goto (tgt := 36) dX3_table_26 ?_
      refine AW.aret dX3_table_36 ?_ ?_
      all_goals first | rfl | exact congrArg (fun z : Int => (some (vI z) : Option AV)) (b2_t (by omega)) | exact congrArg (fun z : Int => (some (vI z) : Option AV)) (b2_f (by omega)) | ((repeat' split) <;> first | rfl | omega) | (refine congrArg (fun z : Int => (some (vI z) : Option AV)) ?_; (repeat' split) <;> first | rfl | omega)
  · refine AW.aload_n (pc' := 5) dX3_table_4 rfl ?_
    refine AW.getR (pc' := 8) dX3_table_5 ly_21 fX3_24 rfl ?_
    refine AW.getR (pc' := 11) dX3_table_8 ly_12 fX3_32 rfl ?_
    refine AW.goto (tgt := 36) dX3_table_11 ?_
    refine AW.aret dX3_table_36 ?_ ?_
    all_goals first | rfl | exact congrArg (fun z : Int => (some (vI z) : Option AV)) (b2_t (by omega)) | exact congrArg (fun z : Int => (some (vI z) : Option AV)) (b2_f (by omega)) | ((repeat' split) <;> first | rfl | omega) | (refine congrArg (fun z : Int => (some (vI z) : Option AV)) ?_; (repeat' split) <;> first | rfl | omega)
set_option maxRecDepth 100000 in
set_option maxHeartbeats 4000000 in
theorem c_X3_table2 {K : KT} {dep : Nat} {h : Hp}    : AM K yX3_table cX3_table 2 (some (.array .int)) dep [vR 21, vI 2] h (some (vR 8)) (h) := by
  refine AM.of (own := RX3) (ls := [some (vR 21), some (vI 2)]) rfl (by decide +kernel) (by exact Nat.le_of_ble_eq_true rfl) rfl (fun hO => ?_)
  refine AW.iload_n (pc' := 1) dX3_table_0 rfl ?_
  refine AW.if_ne (tgt := 14) (pc' := 4) dX3_table_1 (by first | assumption | omega | (constructor <;> omega) | (simp only [Int.toNat_natCast]; omega) | exact b2_in _) (fun c1 => ?_) (fun c1 => ?_)
  · refine AW.iload_n (pc' := 15) dX3_table_14 rfl ?_
    refine AW.iconst (pc' := 16) dX3_table_15 ?_
    refine AW.icmp_ne (tgt := 29) (pc' := 19) dX3_table_16 (by first | assumption | omega | (constructor <;> omega) | (simp only [Int.toNat_natCast]; omega) | exact b2_in _) (by first | assumption | omega | (constructor <;> omega) | (simp only [Int.toNat_natCast]; omega) | exact b2_in _) (fun c16 => ?_) (fun c16 => ?_)
    · refine AW.aload_n (pc' := 30) dX3_table_29 rfl ?_
      refine AW.getR (pc' := 33) dX3_table_30 ly_21 fX3_28 rfl ?_
      refine AW.getR (pc' := 36) dX3_table_33 ly_6 fX3_40 rfl ?_
      refine AW.aret dX3_table_36 ?_ ?_
      all_goals first | rfl | exact congrArg (fun z : Int => (some (vI z) : Option AV)) (b2_t (by omega)) | exact congrArg (fun z : Int => (some (vI z) : Option AV)) (b2_f (by omega)) | ((repeat' split) <;> first | rfl | omega) | (refine congrArg (fun z : Int => (some (vI z) : Option AV)) ?_; (repeat' split) <;> first | rfl | omega)
    · refine AW.aload_n (pc' := 20) dX3_table_19 rfl ?_
      refine AW.getR (pc' := 23) dX3_table_20 ly_21 fX3_24 rfl ?_
      refine AW.getR (pc' := 26) dX3_table_23 ly_12 fX3_37 rfl ?_
      refine AW.goto (tgt := 36) dX3_table_26 ?_
      refine AW.aret dX3_table_36 ?_ ?_
      all_goals first | rfl | exact congrArg (fun z : Int => (some (vI z) : Option AV)) (b2_t (by omega)) | exact congrArg (fun z : Int => (some (vI z) : Option AV)) (b2_f (by omega)) | ((repeat' split) <;> first | rfl | omega) | (refine congrArg (fun z : Int => (some (vI z) : Option AV)) ?_; (repeat' split) <;> first | rfl | omega)
  · refine AW.aload_n (pc' := 5) dX3_table_4 rfl ?_
    refine AW.getR (pc' := 8) dX3_table_5 ly_21 fX3_24 rfl ?_
    refine AW.getR (pc' := 11) dX3_table_8 ly_12 fX3_32 rfl ?_
    refine AW.goto (tgt := 36) dX3_table_11 ?_
    refine AW.aret dX3_table_36 ?_ ?_
    all_goals first | rfl | exact congrArg (fun z : Int => (some (vI z) : Option AV)) (b2_t (by omega)) | exact congrArg (fun z : Int => (some (vI z) : Option AV)) (b2_f (by omega)) | ((repeat' split) <;> first | rfl | omega) | (refine congrArg (fun z : Int => (some (vI z) : Option AV)) ?_; (repeat' split) <;> first | rfl | omega)
set_option maxRecDepth 100000 in
set_option maxHeartbeats 4000000 in
theorem c_X3_current {K : KT} {dep : Nat} {h : Hp} {a b : Int} (hd : 1 ≤ dep) (q0 : 0 ≤ a ∧ a < 120) (q1 : 0 ≤ b ∧ b ≤ 2) (q2 : b = 2 → a < 6) : AM K yX3_current cX3_current 3 (some .int) dep [vR 21, vI a, vI b] h (some (vI (h (tblX b) a.toNat))) (h) := by
  refine AM.of (own := RX3) (ls := [some (vR 21), some (vI a), some (vI b)]) rfl (by decide +kernel) (by exact Nat.le_of_ble_eq_true rfl) rfl (fun hO => ?_)
  by_cases v0_0 : b = 0
  · subst v0_0
    refine AW.aload_n (pc' := 1) dX3_current_0 rfl ?_
    refine AW.iload_n (pc' := 2) dX3_current_1 rfl ?_
    refine AW.invV1 (pc' := 5) dX3_current_2 mlX3_45 mX3_table ly_21 rfl (c_X3_table0 (dep := dep - 1)) ?_
    refine AW.iload_n (pc' := 6) dX3_current_5 rfl ?_
    first | refine AW.ialdN (pc' := 7) dX3_current_6 ly_16 (by first | assumption | omega | (constructor <;> omega) | (simp only [Int.toNat_natCast]; omega) | exact b2_in _) (by decide) (fun r6 => ?_) | refine AW.iald (pc' := 7) dX3_current_6 ly_16 (by first | assumption | omega | (constructor <;> omega) | (simp only [Int.toNat_natCast]; omega) | exact b2_in _) (by first | assumption | omega | (constructor <;> omega) | (simp only [Int.toNat_natCast]; omega) | exact b2_in _) (by decide) (fun r6 => ?_)
    refine AW.iret dX3_current_7 ?_ ?_
    all_goals first | rfl | exact congrArg (fun z : Int => (some (vI z) : Option AV)) (b2_t (by omega)) | exact congrArg (fun z : Int => (some (vI z) : Option AV)) (b2_f (by omega)) | ((repeat' split) <;> first | rfl | omega) | (refine congrArg (fun z : Int => (some (vI z) : Option AV)) ?_; (repeat' split) <;> first | rfl | omega)
  by_cases v0_1 : b = 1
  · subst v0_1
    refine AW.aload_n (pc' := 1) dX3_current_0 rfl ?_
    refine AW.iload_n (pc' := 2) dX3_current_1 rfl ?_
    refine AW.invV1 (pc' := 5) dX3_current_2 mlX3_45 mX3_table ly_21 rfl (c_X3_table1 (dep := dep - 1)) ?_
    refine AW.iload_n (pc' := 6) dX3_current_5 rfl ?_
    first | refine AW.ialdN (pc' := 7) dX3_current_6 ly_17 (by first | assumption | omega | (constructor <;> omega) | (simp only [Int.toNat_natCast]; omega) | exact b2_in _) (by decide) (fun r6 => ?_) | refine AW.iald (pc' := 7) dX3_current_6 ly_17 (by first | assumption | omega | (constructor <;> omega) | (simp only [Int.toNat_natCast]; omega) | exact b2_in _) (by first | assumption | omega | (constructor <;> omega) | (simp only [Int.toNat_natCast]; omega) | exact b2_in _) (by decide) (fun r6 => ?_)
    refine AW.iret dX3_current_7 ?_ ?_
    all_goals first | rfl | exact congrArg (fun z : Int => (some (vI z) : Option AV)) (b2_t (by omega)) | exact congrArg (fun z : Int => (some (vI z) : Option AV)) (b2_f (by omega)) | ((repeat' split) <;> first | rfl | omega) | (refine congrArg (fun z : Int => (some (vI z) : Option AV)) ?_; (repeat' split) <;> first | rfl | omega)
  by_cases v0_2 : b = 2
  · subst v0_2
    refine AW.aload_n (pc' := 1) dX3_current_0 rfl ?_
    refine AW.iload_n (pc' := 2) dX3_current_1 rfl ?_
    refine AW.invV1 (pc' := 5) dX3_current_2 mlX3_45 mX3_table ly_21 rfl (c_X3_table2 (dep := dep - 1)) ?_
    refine AW.iload_n (pc' := 6) dX3_current_5 rfl ?_
    first | refine AW.ialdN (pc' := 7) dX3_current_6 ly_8 (by first | assumption | omega | (constructor <;> omega) | (simp only [Int.toNat_natCast]; omega) | exact b2_in _) (by decide) (fun r6 => ?_) | refine AW.iald (pc' := 7) dX3_current_6 ly_8 (by first | assumption | omega | (constructor <;> omega) | (simp only [Int.toNat_natCast]; omega) | exact b2_in _) (by first | assumption | omega | (constructor <;> omega) | (simp only [Int.toNat_natCast]; omega) | exact b2_in _) (by decide) (fun r6 => ?_)
    refine AW.iret dX3_current_7 ?_ ?_
    all_goals first | rfl | exact congrArg (fun z : Int => (some (vI z) : Option AV)) (b2_t (by omega)) | exact congrArg (fun z : Int => (some (vI z) : Option AV)) (b2_f (by omega)) | ((repeat' split) <;> first | rfl | omega) | (refine congrArg (fun z : Int => (some (vI z) : Option AV)) ?_; (repeat' split) <;> first | rfl | omega)
  exfalso
  omega
set_option maxRecDepth 100000 in
set_option maxHeartbeats 4000000 in
theorem c_X3_back {K : KT} {dep : Nat} {h : Hp}  (hd : 1 ≤ dep) (q0 : h 21 6 ≤ 40) (q1 : PChg (h 21 6) (h 12 10) (h 6 3) (h 22) (h 23) (h 24) (h 25)) (q2 : h 12 10 ≤ 120) (q3 : h 6 3 ≤ 6) : AM K yX3_back cX3_back 1 (some .int) dep [vR 21] h (some (vI (if h 21 6 ≤ 0 then -5 else h 21 6 - 1))) (if h 21 6 ≤ 0 then h else hset (hset h 21 6 (h 21 6 - 1)) (tblX (h 23 (h 21 6 - 1).toNat)) (h 22 (h 21 6 - 1).toNat).toNat (h 24 (h 21 6 - 1).toNat)) := by
  refine AM.of (own := RX3) (ls := [some (vR 21)]) rfl (by decide +kernel) (by exact Nat.le_of_ble_eq_true rfl) rfl (fun hO => ?_)
  refine AW.aload_n (pc' := 1) dX3_back_0 rfl ?_
  refine AW.getI (pc' := 4) dX3_back_1 ly_21 fX3_49 rfl (fun r1 => ?_)
  refine AW.if_gt (tgt := 10) (pc' := 7) dX3_back_4 (by first | assumption | omega | (constructor <;> omega) | (simp only [Int.toNat_natCast]; omega) | exact b2_in _) (fun c4 => ?_) (fun c4 => ?_)
  · have oc := okC_in (q1 (h 21 6 - 1).toNat (by omega)).1 q2 q3
    refine AW.aload_n (pc' := 11) dX3_back_10 rfl ?_
    refine AW.dup (pc' := 12) dX3_back_11 rfl ?_
    refine AW.getI (pc' := 15) dX3_back_12 ly_21 fX3_49 rfl (fun r12 => ?_)
    refine AW.iconst (pc' := 16) dX3_back_15 ?_
    refine AW.isub (pc' := 17) dX3_back_16 ?_
    refine AW.putI (pc' := 20) dX3_back_17 ly_21 pX3_49 rfl (by first | assumption | omega | (constructor <;> omega) | (simp only [Int.toNat_natCast]; omega) | exact b2_in _) ?_
    refine AW.aload_n (pc' := 21) dX3_back_20 rfl ?_
    refine AW.aload_n (pc' := 22) dX3_back_21 rfl ?_
    refine AW.getR (pc' := 25) dX3_back_22 ly_21 fX3_15 rfl ?_
    refine AW.aload_n (pc' := 26) dX3_back_25 rfl ?_
    refine AW.getI (pc' := 29) dX3_back_26 ly_21 fX3_49 rfl (fun r26 => ?_)
    try simp only [hset_app, Nat.reduceEqDiff, false_and, and_false, true_and, and_true, reduceIte] at r26 ⊢
    first | refine AW.ialdN (pc' := 30) dX3_back_29 ly_23 (by first | assumption | omega | (constructor <;> omega) | (simp only [Int.toNat_natCast]; omega) | exact b2_in _) (by decide) (fun r29 => ?_) | refine AW.iald (pc' := 30) dX3_back_29 ly_23 (by first | assumption | omega | (constructor <;> omega) | (simp only [Int.toNat_natCast]; omega) | exact b2_in _) (by first | assumption | omega | (constructor <;> omega) | (simp only [Int.toNat_natCast]; omega) | exact b2_in _) (by decide) (fun r29 => ?_)
    try simp only [hset_app, Nat.reduceEqDiff, false_and, and_false, true_and, and_true, reduceIte] at r29 ⊢
    by_cases v30_0 : h 23 (h 21 6 - 1).toNat = 0
    · refine AW.top v30_0 ?_
      refine AW.invV1 (pc' := 33) dX3_back_30 mlX3_45 mX3_table ly_21 rfl (c_X3_table0 (dep := dep - 1)) ?_
      refine AW.aload_n (pc' := 34) dX3_back_33 rfl ?_
      refine AW.getR (pc' := 37) dX3_back_34 ly_21 fX3_9 rfl ?_
      refine AW.aload_n (pc' := 38) dX3_back_37 rfl ?_
      refine AW.getI (pc' := 41) dX3_back_38 ly_21 fX3_49 rfl (fun r38 => ?_)
      try simp only [hset_app, Nat.reduceEqDiff, false_and, and_false, true_and, and_true, reduceIte] at r38 ⊢
      first | refine AW.ialdN (pc' := 42) dX3_back_41 ly_22 (by first | assumption | omega | (constructor <;> omega) | (simp only [Int.toNat_natCast]; omega) | exact b2_in _) (by decide) (fun r41 => ?_) | refine AW.iald (pc' := 42) dX3_back_41 ly_22 (by first | assumption | omega | (constructor <;> omega) | (simp only [Int.toNat_natCast]; omega) | exact b2_in _) (by first | assumption | omega | (constructor <;> omega) | (simp only [Int.toNat_natCast]; omega) | exact b2_in _) (by decide) (fun r41 => ?_)
      try simp only [hset_app, Nat.reduceEqDiff, false_and, and_false, true_and, and_true, reduceIte] at r41 ⊢
      refine AW.aload_n (pc' := 43) dX3_back_42 rfl ?_
      refine AW.getR (pc' := 46) dX3_back_43 ly_21 fX3_18 rfl ?_
      refine AW.aload_n (pc' := 47) dX3_back_46 rfl ?_
      refine AW.getI (pc' := 50) dX3_back_47 ly_21 fX3_49 rfl (fun r47 => ?_)
      try simp only [hset_app, Nat.reduceEqDiff, false_and, and_false, true_and, and_true, reduceIte] at r47 ⊢
      first | refine AW.ialdN (pc' := 51) dX3_back_50 ly_24 (by first | assumption | omega | (constructor <;> omega) | (simp only [Int.toNat_natCast]; omega) | exact b2_in _) (by decide) (fun r50 => ?_) | refine AW.iald (pc' := 51) dX3_back_50 ly_24 (by first | assumption | omega | (constructor <;> omega) | (simp only [Int.toNat_natCast]; omega) | exact b2_in _) (by first | assumption | omega | (constructor <;> omega) | (simp only [Int.toNat_natCast]; omega) | exact b2_in _) (by decide) (fun r50 => ?_)
      try simp only [hset_app, Nat.reduceEqDiff, false_and, and_false, true_and, and_true, reduceIte] at r50 ⊢
      first | refine AW.iastN (pc' := 52) dX3_back_51 ly_16 (by first | assumption | omega | (constructor <;> omega) | (simp only [Int.toNat_natCast]; omega) | exact b2_in _) (by decide) (by first | assumption | omega | (constructor <;> omega) | (simp only [Int.toNat_natCast]; omega) | exact b2_in _) ?_ | refine AW.iast (pc' := 52) dX3_back_51 ly_16 (by first | assumption | omega | (constructor <;> omega) | (simp only [Int.toNat_natCast]; omega) | exact b2_in _) (by first | assumption | omega | (constructor <;> omega) | (simp only [Int.toNat_natCast]; omega) | exact b2_in _) (by decide) (by first | assumption | omega | (constructor <;> omega) | (simp only [Int.toNat_natCast]; omega) | exact b2_in _) ?_
      refine AW.aload_n (pc' := 53) dX3_back_52 rfl ?_
      refine AW.getI (pc' := 56) dX3_back_53 ly_21 fX3_49 rfl (fun r53 => ?_)
      try simp only [hset_app, Nat.reduceEqDiff, false_and, and_false, true_and, and_true, reduceIte] at r53 ⊢
      refine AW.iret dX3_back_56 ?_ ?_
      · first | (rw [if_pos (by omega)]) | (rw [if_neg (by omega)])
      · first | (rw [if_pos (by omega)]) | (rw [if_neg (by omega)]; unfold tblX; simp only [*]; rfl)
    by_cases v30_1 : h 23 (h 21 6 - 1).toNat = 1
    · refine AW.top v30_1 ?_
      refine AW.invV1 (pc' := 33) dX3_back_30 mlX3_45 mX3_table ly_21 rfl (c_X3_table1 (dep := dep - 1)) ?_
      refine AW.aload_n (pc' := 34) dX3_back_33 rfl ?_
      refine AW.getR (pc' := 37) dX3_back_34 ly_21 fX3_9 rfl ?_
      refine AW.aload_n (pc' := 38) dX3_back_37 rfl ?_
      refine AW.getI (pc' := 41) dX3_back_38 ly_21 fX3_49 rfl (fun r38 => ?_)
      try simp only [hset_app, Nat.reduceEqDiff, false_and, and_false, true_and, and_true, reduceIte] at r38 ⊢
      first | refine AW.ialdN (pc' := 42) dX3_back_41 ly_22 (by first | assumption | omega | (constructor <;> omega) | (simp only [Int.toNat_natCast]; omega) | exact b2_in _) (by decide) (fun r41 => ?_) | refine AW.iald (pc' := 42) dX3_back_41 ly_22 (by first | assumption | omega | (constructor <;> omega) | (simp only [Int.toNat_natCast]; omega) | exact b2_in _) (by first | assumption | omega | (constructor <;> omega) | (simp only [Int.toNat_natCast]; omega) | exact b2_in _) (by decide) (fun r41 => ?_)
      try simp only [hset_app, Nat.reduceEqDiff, false_and, and_false, true_and, and_true, reduceIte] at r41 ⊢
      refine AW.aload_n (pc' := 43) dX3_back_42 rfl ?_
      refine AW.getR (pc' := 46) dX3_back_43 ly_21 fX3_18 rfl ?_
      refine AW.aload_n (pc' := 47) dX3_back_46 rfl ?_
      refine AW.getI (pc' := 50) dX3_back_47 ly_21 fX3_49 rfl (fun r47 => ?_)
      try simp only [hset_app, Nat.reduceEqDiff, false_and, and_false, true_and, and_true, reduceIte] at r47 ⊢
      first | refine AW.ialdN (pc' := 51) dX3_back_50 ly_24 (by first | assumption | omega | (constructor <;> omega) | (simp only [Int.toNat_natCast]; omega) | exact b2_in _) (by decide) (fun r50 => ?_) | refine AW.iald (pc' := 51) dX3_back_50 ly_24 (by first | assumption | omega | (constructor <;> omega) | (simp only [Int.toNat_natCast]; omega) | exact b2_in _) (by first | assumption | omega | (constructor <;> omega) | (simp only [Int.toNat_natCast]; omega) | exact b2_in _) (by decide) (fun r50 => ?_)
      try simp only [hset_app, Nat.reduceEqDiff, false_and, and_false, true_and, and_true, reduceIte] at r50 ⊢
      first | refine AW.iastN (pc' := 52) dX3_back_51 ly_17 (by first | assumption | omega | (constructor <;> omega) | (simp only [Int.toNat_natCast]; omega) | exact b2_in _) (by decide) (by first | assumption | omega | (constructor <;> omega) | (simp only [Int.toNat_natCast]; omega) | exact b2_in _) ?_ | refine AW.iast (pc' := 52) dX3_back_51 ly_17 (by first | assumption | omega | (constructor <;> omega) | (simp only [Int.toNat_natCast]; omega) | exact b2_in _) (by first | assumption | omega | (constructor <;> omega) | (simp only [Int.toNat_natCast]; omega) | exact b2_in _) (by decide) (by first | assumption | omega | (constructor <;> omega) | (simp only [Int.toNat_natCast]; omega) | exact b2_in _) ?_
      refine AW.aload_n (pc' := 53) dX3_back_52 rfl ?_
      refine AW.getI (pc' := 56) dX3_back_53 ly_21 fX3_49 rfl (fun r53 => ?_)
      try simp only [hset_app, Nat.reduceEqDiff, false_and, and_false, true_and, and_true, reduceIte] at r53 ⊢
      refine AW.iret dX3_back_56 ?_ ?_
      · first | (rw [if_pos (by omega)]) | (rw [if_neg (by omega)])
      · first | (rw [if_pos (by omega)]) | (rw [if_neg (by omega)]; unfold tblX; simp only [*]; rfl)
    by_cases v30_2 : h 23 (h 21 6 - 1).toNat = 2
    · refine AW.top v30_2 ?_
      refine AW.invV1 (pc' := 33) dX3_back_30 mlX3_45 mX3_table ly_21 rfl (c_X3_table2 (dep := dep - 1)) ?_
      refine AW.aload_n (pc' := 34) dX3_back_33 rfl ?_
      refine AW.getR (pc' := 37) dX3_back_34 ly_21 fX3_9 rfl ?_
      refine AW.aload_n (pc' := 38) dX3_back_37 rfl ?_
      refine AW.getI (pc' := 41) dX3_back_38 ly_21 fX3_49 rfl (fun r38 => ?_)
      try simp only [hset_app, Nat.reduceEqDiff, false_and, and_false, true_and, and_true, reduceIte] at r38 ⊢
      first | refine AW.ialdN (pc' := 42) dX3_back_41 ly_22 (by first | assumption | omega | (constructor <;> omega) | (simp only [Int.toNat_natCast]; omega) | exact b2_in _) (by decide) (fun r41 => ?_) | refine AW.iald (pc' := 42) dX3_back_41 ly_22 (by first | assumption | omega | (constructor <;> omega) | (simp only [Int.toNat_natCast]; omega) | exact b2_in _) (by first | assumption | omega | (constructor <;> omega) | (simp only [Int.toNat_natCast]; omega) | exact b2_in _) (by decide) (fun r41 => ?_)
      try simp only [hset_app, Nat.reduceEqDiff, false_and, and_false, true_and, and_true, reduceIte] at r41 ⊢
      refine AW.aload_n (pc' := 43) dX3_back_42 rfl ?_
      refine AW.getR (pc' := 46) dX3_back_43 ly_21 fX3_18 rfl ?_
      refine AW.aload_n (pc' := 47) dX3_back_46 rfl ?_
      refine AW.getI (pc' := 50) dX3_back_47 ly_21 fX3_49 rfl (fun r47 => ?_)
      try simp only [hset_app, Nat.reduceEqDiff, false_and, and_false, true_and, and_true, reduceIte] at r47 ⊢
      first | refine AW.ialdN (pc' := 51) dX3_back_50 ly_24 (by first | assumption | omega | (constructor <;> omega) | (simp only [Int.toNat_natCast]; omega) | exact b2_in _) (by decide) (fun r50 => ?_) | refine AW.iald (pc' := 51) dX3_back_50 ly_24 (by first | assumption | omega | (constructor <;> omega) | (simp only [Int.toNat_natCast]; omega) | exact b2_in _) (by first | assumption | omega | (constructor <;> omega) | (simp only [Int.toNat_natCast]; omega) | exact b2_in _) (by decide) (fun r50 => ?_)
      try simp only [hset_app, Nat.reduceEqDiff, false_and, and_false, true_and, and_true, reduceIte] at r50 ⊢
      first | refine AW.iastN (pc' := 52) dX3_back_51 ly_8 (by first | assumption | omega | (constructor <;> omega) | (simp only [Int.toNat_natCast]; omega) | exact b2_in _) (by decide) (by first | assumption | omega | (constructor <;> omega) | (simp only [Int.toNat_natCast]; omega) | exact b2_in _) ?_ | refine AW.iast (pc' := 52) dX3_back_51 ly_8 (by first | assumption | omega | (constructor <;> omega) | (simp only [Int.toNat_natCast]; omega) | exact b2_in _) (by first | assumption | omega | (constructor <;> omega) | (simp only [Int.toNat_natCast]; omega) | exact b2_in _) (by decide) (by first | assumption | omega | (constructor <;> omega) | (simp only [Int.toNat_natCast]; omega) | exact b2_in _) ?_
      refine AW.aload_n (pc' := 53) dX3_back_52 rfl ?_
      refine AW.getI (pc' := 56) dX3_back_53 ly_21 fX3_49 rfl (fun r53 => ?_)
      try simp only [hset_app, Nat.reduceEqDiff, false_and, and_false, true_and, and_true, reduceIte] at r53 ⊢
      refine AW.iret dX3_back_56 ?_ ?_
      · first | (rw [if_pos (by omega)]) | (rw [if_neg (by omega)])
      · first | (rw [if_pos (by omega)]) | (rw [if_neg (by omega)]; unfold tblX; simp only [*]; rfl)
    exfalso
    omega
  · refine AW.bipush (pc' := 9) dX3_back_7 (by decide) ?_
    refine AW.iret dX3_back_9 ?_ ?_
    · first | (rw [if_pos (by omega)]) | (rw [if_neg (by omega)])
    · first | (rw [if_pos (by omega)]) | (rw [if_neg (by omega)]; unfold tblX; simp only [*]; rfl)
set_option maxRecDepth 100000 in
set_option maxHeartbeats 4000000 in
theorem c_X3_again {K : KT} {dep : Nat} {h : Hp}  (hd : 1 ≤ dep) (q0 : 0 ≤ h 21 6 ∧ h 21 7 ≤ 40) (q1 : PChg (h 21 7) (h 12 10) (h 6 3) (h 22) (h 23) (h 24) (h 25)) (q2 : h 12 10 ≤ 120) (q3 : h 6 3 ≤ 6) : AM K yX3_again cX3_again 1 (some .int) dep [vR 21] h (some (vI (if h 21 7 ≤ h 21 6 then -5 else h 21 7 - (h 21 6 + 1)))) (if h 21 7 ≤ h 21 6 then h else hset (hset h (tblX (h 23 (h 21 6).toNat)) (h 22 (h 21 6).toNat).toNat (h 25 (h 21 6).toNat)) 21 6 (h 21 6 + 1)) := by
  refine AM.of (own := RX3) (ls := [some (vR 21)]) rfl (by decide +kernel) (by exact Nat.le_of_ble_eq_true rfl) rfl (fun hO => ?_)
  refine AW.aload_n (pc' := 1) dX3_again_0 rfl ?_
  refine AW.getI (pc' := 4) dX3_again_1 ly_21 fX3_49 rfl (fun r1 => ?_)
  refine AW.aload_n (pc' := 5) dX3_again_4 rfl ?_
  refine AW.getI (pc' := 8) dX3_again_5 ly_21 fX3_56 rfl (fun r5 => ?_)
  refine AW.icmp_lt (tgt := 14) (pc' := 11) dX3_again_8 (by first | assumption | omega | (constructor <;> omega) | (simp only [Int.toNat_natCast]; omega) | exact b2_in _) (by first | assumption | omega | (constructor <;> omega) | (simp only [Int.toNat_natCast]; omega) | exact b2_in _) (fun c8 => ?_) (fun c8 => ?_)
  · have oc := okC_in (q1 (h 21 6).toNat (by omega)).2 q2 q3
    refine AW.aload_n (pc' := 15) dX3_again_14 rfl ?_
    refine AW.aload_n (pc' := 16) dX3_again_15 rfl ?_
    refine AW.getR (pc' := 19) dX3_again_16 ly_21 fX3_15 rfl ?_
    refine AW.aload_n (pc' := 20) dX3_again_19 rfl ?_
    refine AW.getI (pc' := 23) dX3_again_20 ly_21 fX3_49 rfl (fun r20 => ?_)
    first | refine AW.ialdN (pc' := 24) dX3_again_23 ly_23 (by first | assumption | omega | (constructor <;> omega) | (simp only [Int.toNat_natCast]; omega) | exact b2_in _) (by decide) (fun r23 => ?_) | refine AW.iald (pc' := 24) dX3_again_23 ly_23 (by first | assumption | omega | (constructor <;> omega) | (simp only [Int.toNat_natCast]; omega) | exact b2_in _) (by first | assumption | omega | (constructor <;> omega) | (simp only [Int.toNat_natCast]; omega) | exact b2_in _) (by decide) (fun r23 => ?_)
    by_cases v24_0 : h 23 (h 21 6).toNat = 0
    · refine AW.top v24_0 ?_
      refine AW.invV1 (pc' := 27) dX3_again_24 mlX3_45 mX3_table ly_21 rfl (c_X3_table0 (dep := dep - 1)) ?_
      refine AW.aload_n (pc' := 28) dX3_again_27 rfl ?_
      refine AW.getR (pc' := 31) dX3_again_28 ly_21 fX3_9 rfl ?_
      refine AW.aload_n (pc' := 32) dX3_again_31 rfl ?_
      refine AW.getI (pc' := 35) dX3_again_32 ly_21 fX3_49 rfl (fun r32 => ?_)
      first | refine AW.ialdN (pc' := 36) dX3_again_35 ly_22 (by first | assumption | omega | (constructor <;> omega) | (simp only [Int.toNat_natCast]; omega) | exact b2_in _) (by decide) (fun r35 => ?_) | refine AW.iald (pc' := 36) dX3_again_35 ly_22 (by first | assumption | omega | (constructor <;> omega) | (simp only [Int.toNat_natCast]; omega) | exact b2_in _) (by first | assumption | omega | (constructor <;> omega) | (simp only [Int.toNat_natCast]; omega) | exact b2_in _) (by decide) (fun r35 => ?_)
      refine AW.aload_n (pc' := 37) dX3_again_36 rfl ?_
      refine AW.getR (pc' := 40) dX3_again_37 ly_21 fX3_21 rfl ?_
      refine AW.aload_n (pc' := 41) dX3_again_40 rfl ?_
      refine AW.getI (pc' := 44) dX3_again_41 ly_21 fX3_49 rfl (fun r41 => ?_)
      first | refine AW.ialdN (pc' := 45) dX3_again_44 ly_25 (by first | assumption | omega | (constructor <;> omega) | (simp only [Int.toNat_natCast]; omega) | exact b2_in _) (by decide) (fun r44 => ?_) | refine AW.iald (pc' := 45) dX3_again_44 ly_25 (by first | assumption | omega | (constructor <;> omega) | (simp only [Int.toNat_natCast]; omega) | exact b2_in _) (by first | assumption | omega | (constructor <;> omega) | (simp only [Int.toNat_natCast]; omega) | exact b2_in _) (by decide) (fun r44 => ?_)
      first | refine AW.iastN (pc' := 46) dX3_again_45 ly_16 (by first | assumption | omega | (constructor <;> omega) | (simp only [Int.toNat_natCast]; omega) | exact b2_in _) (by decide) (by first | assumption | omega | (constructor <;> omega) | (simp only [Int.toNat_natCast]; omega) | exact b2_in _) ?_ | refine AW.iast (pc' := 46) dX3_again_45 ly_16 (by first | assumption | omega | (constructor <;> omega) | (simp only [Int.toNat_natCast]; omega) | exact b2_in _) (by first | assumption | omega | (constructor <;> omega) | (simp only [Int.toNat_natCast]; omega) | exact b2_in _) (by decide) (by first | assumption | omega | (constructor <;> omega) | (simp only [Int.toNat_natCast]; omega) | exact b2_in _) ?_
      refine AW.aload_n (pc' := 47) dX3_again_46 rfl ?_
      refine AW.dup (pc' := 48) dX3_again_47 rfl ?_
      refine AW.getI (pc' := 51) dX3_again_48 ly_21 fX3_49 rfl (fun r48 => ?_)
      try simp only [hset_app, Nat.reduceEqDiff, false_and, and_false, true_and, and_true, reduceIte] at r48 ⊢
      refine AW.iconst (pc' := 52) dX3_again_51 ?_
      refine AW.iadd (pc' := 53) dX3_again_52 ?_
      refine AW.putI (pc' := 56) dX3_again_53 ly_21 pX3_49 rfl (by first | assumption | omega | (constructor <;> omega) | (simp only [Int.toNat_natCast]; omega) | exact b2_in _) ?_
      refine AW.aload_n (pc' := 57) dX3_again_56 rfl ?_
      refine AW.getI (pc' := 60) dX3_again_57 ly_21 fX3_56 rfl (fun r57 => ?_)
      try simp only [hset_app, Nat.reduceEqDiff, false_and, and_false, true_and, and_true, reduceIte] at r57 ⊢
      refine AW.aload_n (pc' := 61) dX3_again_60 rfl ?_
      refine AW.getI (pc' := 64) dX3_again_61 ly_21 fX3_49 rfl (fun r61 => ?_)
      try simp only [hset_app, Nat.reduceEqDiff, false_and, and_false, true_and, and_true, reduceIte] at r61 ⊢
      refine AW.isub (pc' := 65) dX3_again_64 ?_
      refine AW.iret dX3_again_65 ?_ ?_
      · first | (rw [if_pos (by omega)]) | (rw [if_neg (by omega)])
      · first | (rw [if_pos (by omega)]) | (rw [if_neg (by omega)]; unfold tblX; simp only [*]; rfl)
    by_cases v24_1 : h 23 (h 21 6).toNat = 1
    · refine AW.top v24_1 ?_
      refine AW.invV1 (pc' := 27) dX3_again_24 mlX3_45 mX3_table ly_21 rfl (c_X3_table1 (dep := dep - 1)) ?_
      refine AW.aload_n (pc' := 28) dX3_again_27 rfl ?_
      refine AW.getR (pc' := 31) dX3_again_28 ly_21 fX3_9 rfl ?_
      refine AW.aload_n (pc' := 32) dX3_again_31 rfl ?_
      refine AW.getI (pc' := 35) dX3_again_32 ly_21 fX3_49 rfl (fun r32 => ?_)
      first | refine AW.ialdN (pc' := 36) dX3_again_35 ly_22 (by first | assumption | omega | (constructor <;> omega) | (simp only [Int.toNat_natCast]; omega) | exact b2_in _) (by decide) (fun r35 => ?_) | refine AW.iald (pc' := 36) dX3_again_35 ly_22 (by first | assumption | omega | (constructor <;> omega) | (simp only [Int.toNat_natCast]; omega) | exact b2_in _) (by first | assumption | omega | (constructor <;> omega) | (simp only [Int.toNat_natCast]; omega) | exact b2_in _) (by decide) (fun r35 => ?_)
      refine AW.aload_n (pc' := 37) dX3_again_36 rfl ?_
      refine AW.getR (pc' := 40) dX3_again_37 ly_21 fX3_21 rfl ?_
      refine AW.aload_n (pc' := 41) dX3_again_40 rfl ?_
      refine AW.getI (pc' := 44) dX3_again_41 ly_21 fX3_49 rfl (fun r41 => ?_)
      first | refine AW.ialdN (pc' := 45) dX3_again_44 ly_25 (by first | assumption | omega | (constructor <;> omega) | (simp only [Int.toNat_natCast]; omega) | exact b2_in _) (by decide) (fun r44 => ?_) | refine AW.iald (pc' := 45) dX3_again_44 ly_25 (by first | assumption | omega | (constructor <;> omega) | (simp only [Int.toNat_natCast]; omega) | exact b2_in _) (by first | assumption | omega | (constructor <;> omega) | (simp only [Int.toNat_natCast]; omega) | exact b2_in _) (by decide) (fun r44 => ?_)
      first | refine AW.iastN (pc' := 46) dX3_again_45 ly_17 (by first | assumption | omega | (constructor <;> omega) | (simp only [Int.toNat_natCast]; omega) | exact b2_in _) (by decide) (by first | assumption | omega | (constructor <;> omega) | (simp only [Int.toNat_natCast]; omega) | exact b2_in _) ?_ | refine AW.iast (pc' := 46) dX3_again_45 ly_17 (by first | assumption | omega | (constructor <;> omega) | (simp only [Int.toNat_natCast]; omega) | exact b2_in _) (by first | assumption | omega | (constructor <;> omega) | (simp only [Int.toNat_natCast]; omega) | exact b2_in _) (by decide) (by first | assumption | omega | (constructor <;> omega) | (simp only [Int.toNat_natCast]; omega) | exact b2_in _) ?_
      refine AW.aload_n (pc' := 47) dX3_again_46 rfl ?_
      refine AW.dup (pc' := 48) dX3_again_47 rfl ?_
      refine AW.getI (pc' := 51) dX3_again_48 ly_21 fX3_49 rfl (fun r48 => ?_)
      try simp only [hset_app, Nat.reduceEqDiff, false_and, and_false, true_and, and_true, reduceIte] at r48 ⊢
      refine AW.iconst (pc' := 52) dX3_again_51 ?_
      refine AW.iadd (pc' := 53) dX3_again_52 ?_
      refine AW.putI (pc' := 56) dX3_again_53 ly_21 pX3_49 rfl (by first | assumption | omega | (constructor <;> omega) | (simp only [Int.toNat_natCast]; omega) | exact b2_in _) ?_
      refine AW.aload_n (pc' := 57) dX3_again_56 rfl ?_
      refine AW.getI (pc' := 60) dX3_again_57 ly_21 fX3_56 rfl (fun r57 => ?_)
      try simp only [hset_app, Nat.reduceEqDiff, false_and, and_false, true_and, and_true, reduceIte] at r57 ⊢
      refine AW.aload_n (pc' := 61) dX3_again_60 rfl ?_
      refine AW.getI (pc' := 64) dX3_again_61 ly_21 fX3_49 rfl (fun r61 => ?_)
      try simp only [hset_app, Nat.reduceEqDiff, false_and, and_false, true_and, and_true, reduceIte] at r61 ⊢
      refine AW.isub (pc' := 65) dX3_again_64 ?_
      refine AW.iret dX3_again_65 ?_ ?_
      · first | (rw [if_pos (by omega)]) | (rw [if_neg (by omega)])
      · first | (rw [if_pos (by omega)]) | (rw [if_neg (by omega)]; unfold tblX; simp only [*]; rfl)
    by_cases v24_2 : h 23 (h 21 6).toNat = 2
    · refine AW.top v24_2 ?_
      refine AW.invV1 (pc' := 27) dX3_again_24 mlX3_45 mX3_table ly_21 rfl (c_X3_table2 (dep := dep - 1)) ?_
      refine AW.aload_n (pc' := 28) dX3_again_27 rfl ?_
      refine AW.getR (pc' := 31) dX3_again_28 ly_21 fX3_9 rfl ?_
      refine AW.aload_n (pc' := 32) dX3_again_31 rfl ?_
      refine AW.getI (pc' := 35) dX3_again_32 ly_21 fX3_49 rfl (fun r32 => ?_)
      first | refine AW.ialdN (pc' := 36) dX3_again_35 ly_22 (by first | assumption | omega | (constructor <;> omega) | (simp only [Int.toNat_natCast]; omega) | exact b2_in _) (by decide) (fun r35 => ?_) | refine AW.iald (pc' := 36) dX3_again_35 ly_22 (by first | assumption | omega | (constructor <;> omega) | (simp only [Int.toNat_natCast]; omega) | exact b2_in _) (by first | assumption | omega | (constructor <;> omega) | (simp only [Int.toNat_natCast]; omega) | exact b2_in _) (by decide) (fun r35 => ?_)
      refine AW.aload_n (pc' := 37) dX3_again_36 rfl ?_
      refine AW.getR (pc' := 40) dX3_again_37 ly_21 fX3_21 rfl ?_
      refine AW.aload_n (pc' := 41) dX3_again_40 rfl ?_
      refine AW.getI (pc' := 44) dX3_again_41 ly_21 fX3_49 rfl (fun r41 => ?_)
      first | refine AW.ialdN (pc' := 45) dX3_again_44 ly_25 (by first | assumption | omega | (constructor <;> omega) | (simp only [Int.toNat_natCast]; omega) | exact b2_in _) (by decide) (fun r44 => ?_) | refine AW.iald (pc' := 45) dX3_again_44 ly_25 (by first | assumption | omega | (constructor <;> omega) | (simp only [Int.toNat_natCast]; omega) | exact b2_in _) (by first | assumption | omega | (constructor <;> omega) | (simp only [Int.toNat_natCast]; omega) | exact b2_in _) (by decide) (fun r44 => ?_)
      first | refine AW.iastN (pc' := 46) dX3_again_45 ly_8 (by first | assumption | omega | (constructor <;> omega) | (simp only [Int.toNat_natCast]; omega) | exact b2_in _) (by decide) (by first | assumption | omega | (constructor <;> omega) | (simp only [Int.toNat_natCast]; omega) | exact b2_in _) ?_ | refine AW.iast (pc' := 46) dX3_again_45 ly_8 (by first | assumption | omega | (constructor <;> omega) | (simp only [Int.toNat_natCast]; omega) | exact b2_in _) (by first | assumption | omega | (constructor <;> omega) | (simp only [Int.toNat_natCast]; omega) | exact b2_in _) (by decide) (by first | assumption | omega | (constructor <;> omega) | (simp only [Int.toNat_natCast]; omega) | exact b2_in _) ?_
      refine AW.aload_n (pc' := 47) dX3_again_46 rfl ?_
      refine AW.dup (pc' := 48) dX3_again_47 rfl ?_
      refine AW.getI (pc' := 51) dX3_again_48 ly_21 fX3_49 rfl (fun r48 => ?_)
      try simp only [hset_app, Nat.reduceEqDiff, false_and, and_false, true_and, and_true, reduceIte] at r48 ⊢
      refine AW.iconst (pc' := 52) dX3_again_51 ?_
      refine AW.iadd (pc' := 53) dX3_again_52 ?_
      refine AW.putI (pc' := 56) dX3_again_53 ly_21 pX3_49 rfl (by first | assumption | omega | (constructor <;> omega) | (simp only [Int.toNat_natCast]; omega) | exact b2_in _) ?_
      refine AW.aload_n (pc' := 57) dX3_again_56 rfl ?_
      refine AW.getI (pc' := 60) dX3_again_57 ly_21 fX3_56 rfl (fun r57 => ?_)
      try simp only [hset_app, Nat.reduceEqDiff, false_and, and_false, true_and, and_true, reduceIte] at r57 ⊢
      refine AW.aload_n (pc' := 61) dX3_again_60 rfl ?_
      refine AW.getI (pc' := 64) dX3_again_61 ly_21 fX3_49 rfl (fun r61 => ?_)
      try simp only [hset_app, Nat.reduceEqDiff, false_and, and_false, true_and, and_true, reduceIte] at r61 ⊢
      refine AW.isub (pc' := 65) dX3_again_64 ?_
      refine AW.iret dX3_again_65 ?_ ?_
      · first | (rw [if_pos (by omega)]) | (rw [if_neg (by omega)])
      · first | (rw [if_pos (by omega)]) | (rw [if_neg (by omega)]; unfold tblX; simp only [*]; rfl)
    exfalso
    omega
  · refine AW.bipush (pc' := 13) dX3_again_11 (by decide) ?_
    refine AW.iret dX3_again_13 ?_ ?_
    · first | (rw [if_pos (by omega)]) | (rw [if_neg (by omega)])
    · first | (rw [if_pos (by omega)]) | (rw [if_neg (by omega)]; unfold tblX; simp only [*]; rfl)
set_option maxRecDepth 100000 in
set_option maxHeartbeats 4000000 in
theorem c_X12_valueOf {K : KT} {dep : Nat} {h : Hp} {a b : Int}  (q0 : 0 ≤ a ∧ a < 120) (q1 : 0 ≤ b ∧ b ≤ 2) (q2 : b = 2 → a < 6) : AM K yX12_valueOf cX12_valueOf 3 (some .int) dep [vR 57, vI a, vI b] h (some (vI (h (tblM b) a.toNat))) (h) := by
  refine AM.of (own := RX12) (ls := [some (vR 57), some (vI a), some (vI b)]) rfl (by decide +kernel) (by exact Nat.le_of_ble_eq_true rfl) rfl (fun hO => ?_)
  refine AW.iload_n (pc' := 1) dX12_valueOf_0 rfl ?_
  refine AW.if_ne (tgt := 13) (pc' := 4) dX12_valueOf_1 (by first | assumption | omega | (constructor <;> omega) | (simp only [Int.toNat_natCast]; omega) | exact b2_in _) (fun c1 => ?_) (fun c1 => ?_)
  · refine AW.iload_n (pc' := 14) dX12_valueOf_13 rfl ?_
    refine AW.iconst (pc' := 15) dX12_valueOf_14 ?_
    refine AW.icmp_ne (tgt := 27) (pc' := 18) dX12_valueOf_15 (by first | assumption | omega | (constructor <;> omega) | (simp only [Int.toNat_natCast]; omega) | exact b2_in _) (by first | assumption | omega | (constructor <;> omega) | (simp only [Int.toNat_natCast]; omega) | exact b2_in _) (fun c15 => ?_) (fun c15 => ?_)
    · refine AW.aload_n (pc' := 28) dX12_valueOf_27 rfl ?_
      refine AW.getR (pc' := 31) dX12_valueOf_28 ly_57 fX12_25 rfl ?_
      refine AW.iload_n (pc' := 32) dX12_valueOf_31 rfl ?_
      first | refine AW.ialdN (pc' := 33) dX12_valueOf_32 ly_63 (by first | assumption | omega | (constructor <;> omega) | (simp only [Int.toNat_natCast]; omega) | exact b2_in _) (by decide) (fun r32 => ?_) | refine AW.iald (pc' := 33) dX12_valueOf_32 ly_63 (by first | assumption | omega | (constructor <;> omega) | (simp only [Int.toNat_natCast]; omega) | exact b2_in _) (by first | assumption | omega | (constructor <;> omega) | (simp only [Int.toNat_natCast]; omega) | exact b2_in _) (by decide) (fun r32 => ?_)
      refine AW.iret dX12_valueOf_33 ?_ ?_
      · unfold tblM
        first | (rw [if_pos (by omega)]) | (rw [if_neg (by omega), if_pos (by omega)]) | (rw [if_neg (by omega), if_neg (by omega)])
      · rfl
    · refine AW.aload_n (pc' := 19) dX12_valueOf_18 rfl ?_
      refine AW.getR (pc' := 22) dX12_valueOf_19 ly_57 fX12_46 rfl ?_
      refine AW.iload_n (pc' := 23) dX12_valueOf_22 rfl ?_
      first | refine AW.ialdN (pc' := 24) dX12_valueOf_23 ly_70 (by first | assumption | omega | (constructor <;> omega) | (simp only [Int.toNat_natCast]; omega) | exact b2_in _) (by decide) (fun r23 => ?_) | refine AW.iald (pc' := 24) dX12_valueOf_23 ly_70 (by first | assumption | omega | (constructor <;> omega) | (simp only [Int.toNat_natCast]; omega) | exact b2_in _) (by first | assumption | omega | (constructor <;> omega) | (simp only [Int.toNat_natCast]; omega) | exact b2_in _) (by decide) (fun r23 => ?_)
      refine AW.goto (tgt := 33) dX12_valueOf_24 ?_
      refine AW.iret dX12_valueOf_33 ?_ ?_
      · unfold tblM
        first | (rw [if_pos (by omega)]) | (rw [if_neg (by omega), if_pos (by omega)]) | (rw [if_neg (by omega), if_neg (by omega)])
      · rfl
  · refine AW.aload_n (pc' := 5) dX12_valueOf_4 rfl ?_
    refine AW.getR (pc' := 8) dX12_valueOf_5 ly_57 fX12_43 rfl ?_
    refine AW.iload_n (pc' := 9) dX12_valueOf_8 rfl ?_
    first | refine AW.ialdN (pc' := 10) dX12_valueOf_9 ly_69 (by first | assumption | omega | (constructor <;> omega) | (simp only [Int.toNat_natCast]; omega) | exact b2_in _) (by decide) (fun r9 => ?_) | refine AW.iald (pc' := 10) dX12_valueOf_9 ly_69 (by first | assumption | omega | (constructor <;> omega) | (simp only [Int.toNat_natCast]; omega) | exact b2_in _) (by first | assumption | omega | (constructor <;> omega) | (simp only [Int.toNat_natCast]; omega) | exact b2_in _) (by decide) (fun r9 => ?_)
    refine AW.goto (tgt := 33) dX12_valueOf_10 ?_
    refine AW.iret dX12_valueOf_33 ?_ ?_
    · unfold tblM
      first | (rw [if_pos (by omega)]) | (rw [if_neg (by omega), if_pos (by omega)]) | (rw [if_neg (by omega), if_neg (by omega)])
    · rfl
set_option maxRecDepth 100000 in
set_option maxHeartbeats 4000000 in
theorem c_X12_becomes {K : KT} {dep : Nat} {h : Hp} {a b c : Int}  (q0 : 0 ≤ a ∧ a < 120) (q1 : 0 ≤ b ∧ b ≤ 2) (q2 : b = 2 → a < 6) (q3 : inI c) : AM K yX12_becomes cX12_becomes 4 none dep [vR 57, vI a, vI b, vI c] h none (hset h (tblM b) a.toNat c) := by
  refine AM.of (own := RX12) (ls := [some (vR 57), some (vI a), some (vI b), some (vI c)]) rfl (by decide +kernel) (by exact Nat.le_of_ble_eq_true rfl) rfl (fun hO => ?_)
  refine AW.iload_n (pc' := 1) dX12_becomes_0 rfl ?_
  refine AW.if_ne (tgt := 14) (pc' := 4) dX12_becomes_1 (by first | assumption | omega | (constructor <;> omega) | (simp only [Int.toNat_natCast]; omega) | exact b2_in _) (fun c1 => ?_) (fun c1 => ?_)
  · refine AW.iload_n (pc' := 15) dX12_becomes_14 rfl ?_
    refine AW.iconst (pc' := 16) dX12_becomes_15 ?_
    refine AW.icmp_ne (tgt := 29) (pc' := 19) dX12_becomes_16 (by first | assumption | omega | (constructor <;> omega) | (simp only [Int.toNat_natCast]; omega) | exact b2_in _) (by first | assumption | omega | (constructor <;> omega) | (simp only [Int.toNat_natCast]; omega) | exact b2_in _) (fun c16 => ?_) (fun c16 => ?_)
    · refine AW.aload_n (pc' := 30) dX12_becomes_29 rfl ?_
      refine AW.getR (pc' := 33) dX12_becomes_30 ly_57 fX12_25 rfl ?_
      refine AW.iload_n (pc' := 34) dX12_becomes_33 rfl ?_
      refine AW.iload_n (pc' := 35) dX12_becomes_34 rfl ?_
      first | refine AW.iastN (pc' := 36) dX12_becomes_35 ly_63 (by first | assumption | omega | (constructor <;> omega) | (simp only [Int.toNat_natCast]; omega) | exact b2_in _) (by decide) (by first | assumption | omega | (constructor <;> omega) | (simp only [Int.toNat_natCast]; omega) | exact b2_in _) ?_ | refine AW.iast (pc' := 36) dX12_becomes_35 ly_63 (by first | assumption | omega | (constructor <;> omega) | (simp only [Int.toNat_natCast]; omega) | exact b2_in _) (by first | assumption | omega | (constructor <;> omega) | (simp only [Int.toNat_natCast]; omega) | exact b2_in _) (by decide) (by first | assumption | omega | (constructor <;> omega) | (simp only [Int.toNat_natCast]; omega) | exact b2_in _) ?_
      refine AW.vret dX12_becomes_36 ?_ ?_
      · rfl
      · unfold tblM
        first | (rw [if_pos (by omega)]) | (rw [if_neg (by omega), if_pos (by omega)]) | (rw [if_neg (by omega), if_neg (by omega)])
    · refine AW.aload_n (pc' := 20) dX12_becomes_19 rfl ?_
      refine AW.getR (pc' := 23) dX12_becomes_20 ly_57 fX12_46 rfl ?_
      refine AW.iload_n (pc' := 24) dX12_becomes_23 rfl ?_
      refine AW.iload_n (pc' := 25) dX12_becomes_24 rfl ?_
      first | refine AW.iastN (pc' := 26) dX12_becomes_25 ly_70 (by first | assumption | omega | (constructor <;> omega) | (simp only [Int.toNat_natCast]; omega) | exact b2_in _) (by decide) (by first | assumption | omega | (constructor <;> omega) | (simp only [Int.toNat_natCast]; omega) | exact b2_in _) ?_ | refine AW.iast (pc' := 26) dX12_becomes_25 ly_70 (by first | assumption | omega | (constructor <;> omega) | (simp only [Int.toNat_natCast]; omega) | exact b2_in _) (by first | assumption | omega | (constructor <;> omega) | (simp only [Int.toNat_natCast]; omega) | exact b2_in _) (by decide) (by first | assumption | omega | (constructor <;> omega) | (simp only [Int.toNat_natCast]; omega) | exact b2_in _) ?_
      refine AW.goto (tgt := 36) dX12_becomes_26 ?_
      refine AW.vret dX12_becomes_36 ?_ ?_
      · rfl
      · unfold tblM
        first | (rw [if_pos (by omega)]) | (rw [if_neg (by omega), if_pos (by omega)]) | (rw [if_neg (by omega), if_neg (by omega)])
  · refine AW.aload_n (pc' := 5) dX12_becomes_4 rfl ?_
    refine AW.getR (pc' := 8) dX12_becomes_5 ly_57 fX12_43 rfl ?_
    refine AW.iload_n (pc' := 9) dX12_becomes_8 rfl ?_
    refine AW.iload_n (pc' := 10) dX12_becomes_9 rfl ?_
    first | refine AW.iastN (pc' := 11) dX12_becomes_10 ly_69 (by first | assumption | omega | (constructor <;> omega) | (simp only [Int.toNat_natCast]; omega) | exact b2_in _) (by decide) (by first | assumption | omega | (constructor <;> omega) | (simp only [Int.toNat_natCast]; omega) | exact b2_in _) ?_ | refine AW.iast (pc' := 11) dX12_becomes_10 ly_69 (by first | assumption | omega | (constructor <;> omega) | (simp only [Int.toNat_natCast]; omega) | exact b2_in _) (by first | assumption | omega | (constructor <;> omega) | (simp only [Int.toNat_natCast]; omega) | exact b2_in _) (by decide) (by first | assumption | omega | (constructor <;> omega) | (simp only [Int.toNat_natCast]; omega) | exact b2_in _) ?_
    refine AW.goto (tgt := 36) dX12_becomes_11 ?_
    refine AW.vret dX12_becomes_36 ?_ ?_
    · rfl
    · unfold tblM
      first | (rw [if_pos (by omega)]) | (rw [if_neg (by omega), if_pos (by omega)]) | (rw [if_neg (by omega), if_neg (by omega)])
set_option maxRecDepth 100000 in
set_option maxHeartbeats 4000000 in
theorem c_X12_undo {K : KT} {dep : Nat} {h : Hp}  (hd : 1 ≤ dep) (q0 : 0 ≤ h 57 22 ∧ h 57 22 ≤ 40 ∧ 0 ≤ h 57 23 ∧ h 57 23 ≤ 40) (q1 : PChg (h 57 22) (h 57 16) (h 57 14) (h 71) (h 72) (h 73) (h 74)) (q2 : h 57 16 ≤ 120) (q3 : h 57 14 ≤ 6) : AM K yX12_undo cX12_undo 1 (some .int) dep [vR 57] h (some (vI (if h 57 22 = 0 then -5 else h 57 22 - 1))) (if h 57 22 = 0 then h else hset (hset (hset h 57 22 (h 57 22 - 1)) 57 23 (h 57 23 + 1)) (tblM (h 72 (h 57 22 - 1).toNat)) (h 71 (h 57 22 - 1).toNat).toNat (h 73 (h 57 22 - 1).toNat)) := by
  refine AM.of (own := RX12) (ls := [some (vR 57)]) rfl (by decide +kernel) (by exact Nat.le_of_ble_eq_true rfl) rfl (fun hO => ?_)
  refine AW.aload_n (pc' := 1) dX12_undo_0 rfl ?_
  refine AW.getI (pc' := 4) dX12_undo_1 ly_57 fX12_171 rfl (fun r1 => ?_)
  refine AW.if_ne (tgt := 10) (pc' := 7) dX12_undo_4 (by first | assumption | omega | (constructor <;> omega) | (simp only [Int.toNat_natCast]; omega) | exact b2_in _) (fun c4 => ?_) (fun c4 => ?_)
  · have oc := okC_in (q1 (h 57 22 - 1).toNat (by omega)).1 q2 q3
    refine AW.aload_n (pc' := 11) dX12_undo_10 rfl ?_
    refine AW.dup (pc' := 12) dX12_undo_11 rfl ?_
    refine AW.getI (pc' := 15) dX12_undo_12 ly_57 fX12_171 rfl (fun r12 => ?_)
    refine AW.iconst (pc' := 16) dX12_undo_15 ?_
    refine AW.isub (pc' := 17) dX12_undo_16 ?_
    refine AW.putI (pc' := 20) dX12_undo_17 ly_57 pX12_171 rfl (by first | assumption | omega | (constructor <;> omega) | (simp only [Int.toNat_natCast]; omega) | exact b2_in _) ?_
    refine AW.aload_n (pc' := 21) dX12_undo_20 rfl ?_
    refine AW.dup (pc' := 22) dX12_undo_21 rfl ?_
    refine AW.getI (pc' := 25) dX12_undo_22 ly_57 fX12_174 rfl (fun r22 => ?_)
    try simp only [hset_app, Nat.reduceEqDiff, false_and, and_false, true_and, and_true, reduceIte] at r22 ⊢
    refine AW.iconst (pc' := 26) dX12_undo_25 ?_
    refine AW.iadd (pc' := 27) dX12_undo_26 ?_
    refine AW.putI (pc' := 30) dX12_undo_27 ly_57 pX12_174 rfl (by first | assumption | omega | (constructor <;> omega) | (simp only [Int.toNat_natCast]; omega) | exact b2_in _) ?_
    refine AW.aload_n (pc' := 31) dX12_undo_30 rfl ?_
    refine AW.aload_n (pc' := 32) dX12_undo_31 rfl ?_
    refine AW.getR (pc' := 35) dX12_undo_32 ly_57 fX12_53 rfl ?_
    refine AW.aload_n (pc' := 36) dX12_undo_35 rfl ?_
    refine AW.getI (pc' := 39) dX12_undo_36 ly_57 fX12_171 rfl (fun r36 => ?_)
    try simp only [hset_app, Nat.reduceEqDiff, false_and, and_false, true_and, and_true, reduceIte] at r36 ⊢
    first | refine AW.ialdN (pc' := 40) dX12_undo_39 ly_71 (by first | assumption | omega | (constructor <;> omega) | (simp only [Int.toNat_natCast]; omega) | exact b2_in _) (by decide) (fun r39 => ?_) | refine AW.iald (pc' := 40) dX12_undo_39 ly_71 (by first | assumption | omega | (constructor <;> omega) | (simp only [Int.toNat_natCast]; omega) | exact b2_in _) (by first | assumption | omega | (constructor <;> omega) | (simp only [Int.toNat_natCast]; omega) | exact b2_in _) (by decide) (fun r39 => ?_)
    try simp only [hset_app, Nat.reduceEqDiff, false_and, and_false, true_and, and_true, reduceIte] at r39 ⊢
    refine AW.aload_n (pc' := 41) dX12_undo_40 rfl ?_
    refine AW.getR (pc' := 44) dX12_undo_41 ly_57 fX12_56 rfl ?_
    refine AW.aload_n (pc' := 45) dX12_undo_44 rfl ?_
    refine AW.getI (pc' := 48) dX12_undo_45 ly_57 fX12_171 rfl (fun r45 => ?_)
    try simp only [hset_app, Nat.reduceEqDiff, false_and, and_false, true_and, and_true, reduceIte] at r45 ⊢
    first | refine AW.ialdN (pc' := 49) dX12_undo_48 ly_72 (by first | assumption | omega | (constructor <;> omega) | (simp only [Int.toNat_natCast]; omega) | exact b2_in _) (by decide) (fun r48 => ?_) | refine AW.iald (pc' := 49) dX12_undo_48 ly_72 (by first | assumption | omega | (constructor <;> omega) | (simp only [Int.toNat_natCast]; omega) | exact b2_in _) (by first | assumption | omega | (constructor <;> omega) | (simp only [Int.toNat_natCast]; omega) | exact b2_in _) (by decide) (fun r48 => ?_)
    try simp only [hset_app, Nat.reduceEqDiff, false_and, and_false, true_and, and_true, reduceIte] at r48 ⊢
    refine AW.aload_n (pc' := 50) dX12_undo_49 rfl ?_
    refine AW.getR (pc' := 53) dX12_undo_50 ly_57 fX12_59 rfl ?_
    refine AW.aload_n (pc' := 54) dX12_undo_53 rfl ?_
    refine AW.getI (pc' := 57) dX12_undo_54 ly_57 fX12_171 rfl (fun r54 => ?_)
    try simp only [hset_app, Nat.reduceEqDiff, false_and, and_false, true_and, and_true, reduceIte] at r54 ⊢
    first | refine AW.ialdN (pc' := 58) dX12_undo_57 ly_73 (by first | assumption | omega | (constructor <;> omega) | (simp only [Int.toNat_natCast]; omega) | exact b2_in _) (by decide) (fun r57 => ?_) | refine AW.iald (pc' := 58) dX12_undo_57 ly_73 (by first | assumption | omega | (constructor <;> omega) | (simp only [Int.toNat_natCast]; omega) | exact b2_in _) (by first | assumption | omega | (constructor <;> omega) | (simp only [Int.toNat_natCast]; omega) | exact b2_in _) (by decide) (fun r57 => ?_)
    try simp only [hset_app, Nat.reduceEqDiff, false_and, and_false, true_and, and_true, reduceIte] at r57 ⊢
    refine AW.invV3v (pc' := 61) dX12_undo_58 mlX12_177 mX12_becomes ly_57 rfl (c_X12_becomes (dep := dep - 1) (by first | assumption | omega | (constructor <;> omega) | (simp only [Int.toNat_natCast]; omega) | exact b2_in _) (by first | assumption | omega | (constructor <;> omega) | (simp only [Int.toNat_natCast]; omega) | exact b2_in _) (by first | assumption | omega | (constructor <;> omega) | (simp only [Int.toNat_natCast]; omega) | exact b2_in _) (by first | assumption | omega | (constructor <;> omega) | (simp only [Int.toNat_natCast]; omega) | exact b2_in _)) ?_
    refine AW.aload_n (pc' := 62) dX12_undo_61 rfl ?_
    refine AW.getI (pc' := 65) dX12_undo_62 ly_57 fX12_171 rfl (fun r62 => ?_)
    try simp only [hset_app, Nat.reduceEqDiff, false_and, and_false, true_and, and_true, reduceIte] at r62 ⊢
    refine AW.iret dX12_undo_65 ?_ ?_
    · first | (rw [if_pos (by omega)]; done) | (rw [if_neg (by omega)]; done) | (rw [if_neg (by omega)]; refine congrArg (fun z : Int => (some (vI z) : Option AV)) ?_; rw [if_neg (fun y => absurd y.1.symm (tblM_ne _))])
    · first | (rw [if_pos (by omega)]; done) | (rw [if_neg (by omega)]; done)
  · refine AW.bipush (pc' := 9) dX12_undo_7 (by decide) ?_
    refine AW.iret dX12_undo_9 ?_ ?_
    · first | (rw [if_pos (by omega)]; done) | (rw [if_neg (by omega)]; done) | (rw [if_neg (by omega)]; refine congrArg (fun z : Int => (some (vI z) : Option AV)) ?_; rw [if_neg (fun y => absurd y.1.symm (tblM_ne _))])
    · first | (rw [if_pos (by omega)]; done) | (rw [if_neg (by omega)]; done)
set_option maxRecDepth 100000 in
set_option maxHeartbeats 4000000 in
theorem c_X12_redo {K : KT} {dep : Nat} {h : Hp}  (hd : 1 ≤ dep) (q0 : 0 ≤ h 57 22 ∧ 0 ≤ h 57 23 ∧ h 57 22 + h 57 23 ≤ 40) (q1 : PChg (h 57 22 + h 57 23) (h 57 16) (h 57 14) (h 71) (h 72) (h 73) (h 74)) (q2 : h 57 16 ≤ 120) (q3 : h 57 14 ≤ 6) : AM K yX12_redo cX12_redo 1 (some .int) dep [vR 57] h (some (vI (if h 57 23 = 0 then -5 else h 57 23 - 1))) (if h 57 23 = 0 then h else hset (hset (hset h (tblM (h 72 (h 57 22).toNat)) (h 71 (h 57 22).toNat).toNat (h 74 (h 57 22).toNat)) 57 22 (h 57 22 + 1)) 57 23 (h 57 23 - 1)) := by
  refine AM.of (own := RX12) (ls := [some (vR 57)]) rfl (by decide +kernel) (by exact Nat.le_of_ble_eq_true rfl) rfl (fun hO => ?_)
  refine AW.aload_n (pc' := 1) dX12_redo_0 rfl ?_
  refine AW.getI (pc' := 4) dX12_redo_1 ly_57 fX12_174 rfl (fun r1 => ?_)
  refine AW.if_ne (tgt := 10) (pc' := 7) dX12_redo_4 (by first | assumption | omega | (constructor <;> omega) | (simp only [Int.toNat_natCast]; omega) | exact b2_in _) (fun c4 => ?_) (fun c4 => ?_)
  · have oc := okC_in (q1 (h 57 22).toNat (by omega)).2 q2 q3
    refine AW.aload_n (pc' := 11) dX12_redo_10 rfl ?_
    refine AW.aload_n (pc' := 12) dX12_redo_11 rfl ?_
    refine AW.getR (pc' := 15) dX12_redo_12 ly_57 fX12_53 rfl ?_
    refine AW.aload_n (pc' := 16) dX12_redo_15 rfl ?_
    refine AW.getI (pc' := 19) dX12_redo_16 ly_57 fX12_171 rfl (fun r16 => ?_)
    first | refine AW.ialdN (pc' := 20) dX12_redo_19 ly_71 (by first | assumption | omega | (constructor <;> omega) | (simp only [Int.toNat_natCast]; omega) | exact b2_in _) (by decide) (fun r19 => ?_) | refine AW.iald (pc' := 20) dX12_redo_19 ly_71 (by first | assumption | omega | (constructor <;> omega) | (simp only [Int.toNat_natCast]; omega) | exact b2_in _) (by first | assumption | omega | (constructor <;> omega) | (simp only [Int.toNat_natCast]; omega) | exact b2_in _) (by decide) (fun r19 => ?_)
    refine AW.aload_n (pc' := 21) dX12_redo_20 rfl ?_
    refine AW.getR (pc' := 24) dX12_redo_21 ly_57 fX12_56 rfl ?_
    refine AW.aload_n (pc' := 25) dX12_redo_24 rfl ?_
    refine AW.getI (pc' := 28) dX12_redo_25 ly_57 fX12_171 rfl (fun r25 => ?_)
    first | refine AW.ialdN (pc' := 29) dX12_redo_28 ly_72 (by first | assumption | omega | (constructor <;> omega) | (simp only [Int.toNat_natCast]; omega) | exact b2_in _) (by decide) (fun r28 => ?_) | refine AW.iald (pc' := 29) dX12_redo_28 ly_72 (by first | assumption | omega | (constructor <;> omega) | (simp only [Int.toNat_natCast]; omega) | exact b2_in _) (by first | assumption | omega | (constructor <;> omega) | (simp only [Int.toNat_natCast]; omega) | exact b2_in _) (by decide) (fun r28 => ?_)
    refine AW.aload_n (pc' := 30) dX12_redo_29 rfl ?_
    refine AW.getR (pc' := 33) dX12_redo_30 ly_57 fX12_62 rfl ?_
    refine AW.aload_n (pc' := 34) dX12_redo_33 rfl ?_
    refine AW.getI (pc' := 37) dX12_redo_34 ly_57 fX12_171 rfl (fun r34 => ?_)
    first | refine AW.ialdN (pc' := 38) dX12_redo_37 ly_74 (by first | assumption | omega | (constructor <;> omega) | (simp only [Int.toNat_natCast]; omega) | exact b2_in _) (by decide) (fun r37 => ?_) | refine AW.iald (pc' := 38) dX12_redo_37 ly_74 (by first | assumption | omega | (constructor <;> omega) | (simp only [Int.toNat_natCast]; omega) | exact b2_in _) (by first | assumption | omega | (constructor <;> omega) | (simp only [Int.toNat_natCast]; omega) | exact b2_in _) (by decide) (fun r37 => ?_)
    refine AW.invV3v (pc' := 41) dX12_redo_38 mlX12_177 mX12_becomes ly_57 rfl (c_X12_becomes (dep := dep - 1) (by first | assumption | omega | (constructor <;> omega) | (simp only [Int.toNat_natCast]; omega) | exact b2_in _) (by first | assumption | omega | (constructor <;> omega) | (simp only [Int.toNat_natCast]; omega) | exact b2_in _) (by first | assumption | omega | (constructor <;> omega) | (simp only [Int.toNat_natCast]; omega) | exact b2_in _) (by first | assumption | omega | (constructor <;> omega) | (simp only [Int.toNat_natCast]; omega) | exact b2_in _)) ?_
    obtain ⟨h3, gh3⟩ : ∃ z, z = hset h (tblM (h 72 (h 57 22).toNat)) (h 71 (h 57 22).toNat).toNat (h 74 (h 57 22).toNat) := ⟨_, rfl⟩
    rw [← gh3]
    have f1 : h3 57 22 = h 57 22 := by rw [gh3]; exact hset_cell (Ne.symm (tblM_ne _))
    have f2 : h3 57 23 = h 57 23 := by rw [gh3]; exact hset_cell (Ne.symm (tblM_ne _))
    refine AW.aload_n (pc' := 42) dX12_redo_41 rfl ?_
    refine AW.dup (pc' := 43) dX12_redo_42 rfl ?_
    refine AW.getI (pc' := 46) dX12_redo_43 ly_57 fX12_171 rfl (fun r43 => ?_)
    try simp only [hset_app, Nat.reduceEqDiff, false_and, and_false, true_and, and_true, reduceIte] at r43 ⊢
    refine AW.iconst (pc' := 47) dX12_redo_46 ?_
    refine AW.iadd (pc' := 48) dX12_redo_47 ?_
    refine AW.putI (pc' := 51) dX12_redo_48 ly_57 pX12_171 rfl (by first | assumption | omega | (constructor <;> omega) | (simp only [Int.toNat_natCast]; omega) | exact b2_in _) ?_
    refine AW.aload_n (pc' := 52) dX12_redo_51 rfl ?_
    refine AW.dup (pc' := 53) dX12_redo_52 rfl ?_
    refine AW.getI (pc' := 56) dX12_redo_53 ly_57 fX12_174 rfl (fun r53 => ?_)
    try simp only [hset_app, Nat.reduceEqDiff, false_and, and_false, true_and, and_true, reduceIte] at r53 ⊢
    refine AW.iconst (pc' := 57) dX12_redo_56 ?_
    refine AW.isub (pc' := 58) dX12_redo_57 ?_
    refine AW.putI (pc' := 61) dX12_redo_58 ly_57 pX12_174 rfl (by first | assumption | omega | (constructor <;> omega) | (simp only [Int.toNat_natCast]; omega) | exact b2_in _) ?_
    refine AW.aload_n (pc' := 62) dX12_redo_61 rfl ?_
    refine AW.getI (pc' := 65) dX12_redo_62 ly_57 fX12_174 rfl (fun r62 => ?_)
    try simp only [hset_app, Nat.reduceEqDiff, false_and, and_false, true_and, and_true, reduceIte] at r62 ⊢
    refine AW.iret dX12_redo_65 ?_ ?_
    · first | (rw [if_pos (by omega)]; done) | (rw [if_neg (by omega)]; done) | (rw [if_neg (by omega)]; refine congrArg (fun z : Int => (some (vI z) : Option AV)) ?_; omega)
    · first | (rw [if_pos (by omega)]; done) | (rw [if_neg (by omega), f1, f2])
  · refine AW.bipush (pc' := 9) dX12_redo_7 (by decide) ?_
    refine AW.iret dX12_redo_9 ?_ ?_
    · first | (rw [if_pos (by omega)]; done) | (rw [if_neg (by omega)]; done) | (rw [if_neg (by omega)]; refine congrArg (fun z : Int => (some (vI z) : Option AV)) ?_; omega)
    · first | (rw [if_pos (by omega)]; done) | (rw [if_neg (by omega), f1, f2])
