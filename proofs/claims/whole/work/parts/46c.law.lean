/-! laws: the reference's law -/
abbrev rdH (h : Hp) : Int × RS := rdM (h 75) (h 57 29) 121 true 0 [] [] 0 0 [] 0
abbrev bsH (h : Hp) : Nat := (h 77 (h 57 30).toNat).toNat
theorem rdM_r1 {B : Nat → Int} {E : Int} : ∀ (n : Nat) (w : Bool) (A : Int) (P T : List Int) (O s : Int) (S : List Int) (C : Int), (rdM B E n w A P T O s S C).1 = 0 ∨ (rdM B E n w A P T O s S C).1 = 1
  | 0, w, A, P, T, O, s, S, C => Or.inl rfl
  | n + 1, w, A, P, T, O, s, S, C => by
    by_cases hE : A < E
    · obtain ⟨r, hr⟩ : ∃ r, r = if w then wantF B E A P T O (s :: S) C (B A.toNat) else behF A P T O s S C (B A.toNat) := ⟨_, rfl⟩
      rw [rdM_step r hr hE]
      by_cases z : r.1 < 0
      · rw [if_pos z]
        exact Or.inl rfl
      · rw [if_neg z]
        exact rdM_r1 n _ _ _ _ _ _ _ _
    · unfold rdM
      rw [if_neg hE]
      split
      · exact Or.inl rfl
      · exact Or.inr rfl
def LCm (h x : Hp) : Prop := (h 57 30 = 4 ∧ x = h) ∨ (h 57 30 < 4 ∧ ∃ y, MSt h (bsH h) (rdH h).2 y ∧ (((rdH h).1 = 0 ∧ x = hset y 57 29 0) ∨ ((rdH h).1 ≠ 0 ∧ x = hset (hset (hset y 57 29 0) 57 30 (h 57 30 + 1)) 77 (h 57 30 + 1).toNat ((bsH h : Int) + (rdH h).2.2.2.1.length))))
set_option maxRecDepth 100000 in
set_option maxHeartbeats 4000000 in
theorem c_X12_reads {K : KT} {dep : Nat} {h : Hp}  (hd : 4 ≤ dep) (q0 : 0 ≤ h 57 30 ∧ h 57 30 < 4) (q1 : 0 ≤ h 77 (h 57 30).toNat ∧ h 77 (h 57 30).toNat ≤ 400) (q2 : 0 ≤ h 57 29 ∧ h 57 29 ≤ 120) : AMp K yX12_reads cX12_reads 3 (some .boolean) dep [vR 57] h (some (vI (rdH h).1)) (fun x => MSt h (bsH h) (rdH h).2 x) := by
  refine AM.of (own := RX12) (ls := [some (vR 57), none, none]) rfl (by decide +kernel) (by exact Nat.le_of_ble_eq_true rfl) rfl (fun hO => ?_)
  refine AW.aload_n (pc' := 1) dX12_reads_0 rfl ?_
  refine AW.iconst (pc' := 2) dX12_reads_1 ?_
  refine AW.putI (pc' := 5) dX12_reads_2 ly_57 pX12_200 rfl (by first | assumption | omega | (constructor <;> omega) | (simp only [Int.toNat_natCast]; omega) | exact b2_in _) ?_
  refine AW.aload_n (pc' := 6) dX12_reads_5 rfl ?_
  refine AW.aload_n (pc' := 7) dX12_reads_6 rfl ?_
  refine AW.getR (pc' := 10) dX12_reads_7 ly_57 fX12_71 rfl ?_
  refine AW.aload_n (pc' := 11) dX12_reads_10 rfl ?_
  refine AW.getI (pc' := 14) dX12_reads_11 ly_57 fX12_223 rfl (fun r11 => ?_)
  try simp only [hset_app, Nat.reduceEqDiff, false_and, and_false, true_and, and_true, reduceIte] at r11 ⊢
  first | refine AW.ialdN (pc' := 15) dX12_reads_14 ly_77 (by first | assumption | omega | (constructor <;> omega) | (simp only [Int.toNat_natCast]; omega) | exact b2_in _) (by decide) (fun r14 => ?_) | refine AW.iald (pc' := 15) dX12_reads_14 ly_77 (by first | assumption | omega | (constructor <;> omega) | (simp only [Int.toNat_natCast]; omega) | exact b2_in _) (by first | assumption | omega | (constructor <;> omega) | (simp only [Int.toNat_natCast]; omega) | exact b2_in _) (by decide) (fun r14 => ?_)
  try simp only [hset_app, Nat.reduceEqDiff, false_and, and_false, true_and, and_true, reduceIte] at r14 ⊢
  refine AW.putI (pc' := 18) dX12_reads_15 ly_57 pX12_184 rfl (by first | assumption | omega | (constructor <;> omega) | (simp only [Int.toNat_natCast]; omega) | exact b2_in _) ?_
  refine AW.aload_n (pc' := 19) dX12_reads_18 rfl ?_
  refine AW.iconst (pc' := 20) dX12_reads_19 ?_
  refine AW.putI (pc' := 23) dX12_reads_20 ly_57 pX12_187 rfl (by first | assumption | omega | (constructor <;> omega) | (simp only [Int.toNat_natCast]; omega) | exact b2_in _) ?_
  refine AW.aload_n (pc' := 24) dX12_reads_23 rfl ?_
  refine AW.iconst (pc' := 25) dX12_reads_24 ?_
  refine AW.putI (pc' := 28) dX12_reads_25 ly_57 pX12_197 rfl (by first | assumption | omega | (constructor <;> omega) | (simp only [Int.toNat_natCast]; omega) | exact b2_in _) ?_
  refine AW.aload_n (pc' := 29) dX12_reads_28 rfl ?_
  refine AW.iconst (pc' := 30) dX12_reads_29 ?_
  refine AW.putI (pc' := 33) dX12_reads_30 ly_57 pX12_209 rfl (by first | assumption | omega | (constructor <;> omega) | (simp only [Int.toNat_natCast]; omega) | exact b2_in _) ?_
  refine AW.aload_n (pc' := 34) dX12_reads_33 rfl ?_
  refine AW.getR (pc' := 37) dX12_reads_34 ly_57 fX12_77 rfl ?_
  refine AW.iconst (pc' := 38) dX12_reads_37 ?_
  refine AW.iconst (pc' := 39) dX12_reads_38 ?_
  first | refine AW.iastN (pc' := 40) dX12_reads_39 ly_79 (by first | assumption | omega | (constructor <;> omega) | (simp only [Int.toNat_natCast]; omega) | exact b2_in _) (by decide) (by first | assumption | omega | (constructor <;> omega) | (simp only [Int.toNat_natCast]; omega) | exact b2_in _) ?_ | refine AW.iast (pc' := 40) dX12_reads_39 ly_79 (by first | assumption | omega | (constructor <;> omega) | (simp only [Int.toNat_natCast]; omega) | exact b2_in _) (by first | assumption | omega | (constructor <;> omega) | (simp only [Int.toNat_natCast]; omega) | exact b2_in _) (by decide) (by first | assumption | omega | (constructor <;> omega) | (simp only [Int.toNat_natCast]; omega) | exact b2_in _) ?_
  refine AW.aload_n (pc' := 41) dX12_reads_40 rfl ?_
  refine AW.iconst (pc' := 42) dX12_reads_41 ?_
  refine AW.putZ (pc' := 45) dX12_reads_42 ly_57 pX12_219 rfl (by first | exact Or.inl rfl | exact Or.inr rfl | exact b2_01 _ | assumption) ?_
  refine AW.iconst (pc' := 46) dX12_reads_45 ?_
  refine AW.istore1n (pc' := 47) dX12_reads_46 (by decide) rfl ?_
  refine AW.weak (lp_X12_reads (g := h) (base := (h 77 (h 57 30).toNat).toNat) (by omega) hd 121 true 0 [] [] 0 0 [] 0 _ ?_ ⟨by decide, q2.1, q2.2, by decide, by decide, by decide, rfl, by decide, by decide⟩ (by omega)) (by (repeat' first | exact LSub.e | refine LSub.n ?_ | refine LSub.c ?_ ?_) <;> first | rfl | exact congrArg Sum.inl (by first | rfl | omega | omega) | exact congrArg (fun z : Int => (vL z : AV)) (by first | rfl | omega | omega))
  refine ⟨((((((EX.rf.st rfl).st rfl).st rfl).st rfl).st rfl).st rfl).st rfl, fun j hj => by rw [hset_slot (by omega), hset_cell (by decide), hset_slot (by omega), hset_slot (by omega), hset_slot (by omega), hset_slot (by omega), hset_slot (by omega)], by simp [hset_app], by simp [hset_app]; omega, by simp [hset_app], by simp [hset_app], by simp [hset_app], by simp [hset_app], STK.nil _ _, STK.nil _ _, fun j _ => by simp [hset_app], fun i hi => ?_⟩
  have i0 : i = 0 := by simp at hi; exact hi
  subst i0
  simp [hset_app]
set_option maxRecDepth 100000 in
set_option maxHeartbeats 4000000 in
theorem c_X12_law {K : KT} {dep : Nat} {h : Hp}  (hd : 5 ≤ dep) (q0 : 0 ≤ h 57 30 ∧ h 57 30 ≤ 4) (q1 : h 57 30 < 4 → 0 ≤ h 77 (h 57 30).toNat ∧ h 77 (h 57 30).toNat ≤ 400) (q2 : 0 ≤ h 57 29 ∧ h 57 29 ≤ 120) : AMp K yX12_law cX12_law 2 (some .int) dep [vR 57] h (some (vI (if h 57 30 = 4 then -3 else if (rdH h).1 = 0 then -100 - (rdH h).2.1 else h 57 30))) (fun x => LCm h x) := by
  refine AM.of (own := RX12) (ls := [some (vR 57), none]) rfl (by decide +kernel) (by exact Nat.le_of_ble_eq_true rfl) rfl (fun hO => ?_)
  have r01 : (rdH h).1 = 0 ∨ (rdH h).1 = 1 := rdM_r1 (B := h 75) (E := h 57 29) 121 true 0 [] [] 0 0 [] 0
  refine AW.aload_n (pc' := 1) dX12_law_0 rfl ?_
  refine AW.getI (pc' := 4) dX12_law_1 ly_57 fX12_223 rfl (fun r1 => ?_)
  try simp only [e30, a3, a4] at r1 ⊢
  refine AW.iconst (pc' := 5) dX12_law_4 ?_
  refine AW.icmp_ne (tgt := 11) (pc' := 8) dX12_law_5 (by first | assumption | omega | (constructor <;> omega) | (simp only [Int.toNat_natCast]; omega) | exact b2_in _) (by first | assumption | omega | (constructor <;> omega) | (simp only [Int.toNat_natCast]; omega) | exact b2_in _) (fun c5 => ?_) (fun c5 => ?_)
  · refine AW.aload_n (pc' := 12) dX12_law_11 rfl ?_
    refine AW.invQ0 (pc' := 15) dX12_law_12 mlX12_232 mX12_reads ly_57 rfl (c_X12_reads (dep := dep - 1) (by omega) (by omega) (q1 (by omega)) q2) (fun h12 s12 => ?_)
    try simp only [Int.toNat_natCast, e30, a3, a4]
    obtain ⟨a1, a2, a3, a4, a5, a6, a7, a8, -⟩ := id s12
    have e30 : h12 57 30 = h 57 30 := a2 30 (Or.inl (by decide))
    refine AW.istore1n (pc' := 16) dX12_law_15 (by decide) rfl ?_
    refine AW.aload_n (pc' := 17) dX12_law_16 rfl ?_
    refine AW.iconst (pc' := 18) dX12_law_17 ?_
    refine AW.putI (pc' := 21) dX12_law_18 ly_57 pX12_181 rfl (by first | assumption | omega | (constructor <;> omega) | (simp only [Int.toNat_natCast]; omega) | exact b2_in _) ?_
    refine AW.iload_n (pc' := 22) dX12_law_21 rfl ?_
    refine AW.if_ne (tgt := 33) (pc' := 25) dX12_law_22 (by first | assumption | omega | (constructor <;> omega) | (simp only [Int.toNat_natCast]; omega) | exact b2_in _) (fun c22 => ?_) (fun c22 => ?_)
    · refine AW.aload_n (pc' := 34) dX12_law_33 rfl ?_
      refine AW.dup (pc' := 35) dX12_law_34 rfl ?_
      refine AW.getI (pc' := 38) dX12_law_35 ly_57 fX12_223 rfl (fun r35 => ?_)
      try simp only [e30, a3, a4] at r35 ⊢
      try simp only [hset_app, Nat.reduceEqDiff, false_and, and_false, true_and, and_true, reduceIte] at r35 ⊢
      refine AW.iconst (pc' := 39) dX12_law_38 ?_
      refine AW.iadd (pc' := 40) dX12_law_39 ?_
      refine AW.putI (pc' := 43) dX12_law_40 ly_57 pX12_223 rfl (by first | assumption | omega | (constructor <;> omega) | (simp only [Int.toNat_natCast]; omega) | exact b2_in _) ?_
      refine AW.aload_n (pc' := 44) dX12_law_43 rfl ?_
      refine AW.getR (pc' := 47) dX12_law_44 ly_57 fX12_71 rfl ?_
      refine AW.aload_n (pc' := 48) dX12_law_47 rfl ?_
      refine AW.getI (pc' := 51) dX12_law_48 ly_57 fX12_223 rfl (fun r48 => ?_)
      try simp only [e30, a3, a4] at r48 ⊢
      try simp only [hset_app, Nat.reduceEqDiff, false_and, and_false, true_and, and_true, reduceIte] at r48 ⊢
      refine AW.aload_n (pc' := 52) dX12_law_51 rfl ?_
      refine AW.getI (pc' := 55) dX12_law_52 ly_57 fX12_184 rfl (fun r52 => ?_)
      try simp only [e30, a3, a4] at r52 ⊢
      try simp only [hset_app, Nat.reduceEqDiff, false_and, and_false, true_and, and_true, reduceIte] at r52 ⊢
      first | refine AW.iastN (pc' := 56) dX12_law_55 ly_77 (by first | assumption | omega | (constructor <;> omega) | (simp only [Int.toNat_natCast]; omega) | exact b2_in _) (by decide) (by first | assumption | omega | (constructor <;> omega) | (simp only [Int.toNat_natCast]; omega) | exact b2_in _) ?_ | refine AW.iast (pc' := 56) dX12_law_55 ly_77 (by first | assumption | omega | (constructor <;> omega) | (simp only [Int.toNat_natCast]; omega) | exact b2_in _) (by first | assumption | omega | (constructor <;> omega) | (simp only [Int.toNat_natCast]; omega) | exact b2_in _) (by decide) (by first | assumption | omega | (constructor <;> omega) | (simp only [Int.toNat_natCast]; omega) | exact b2_in _) ?_
      refine AW.aload_n (pc' := 57) dX12_law_56 rfl ?_
      refine AW.getI (pc' := 60) dX12_law_57 ly_57 fX12_223 rfl (fun r57 => ?_)
      try simp only [e30, a3, a4] at r57 ⊢
      try simp only [hset_app, Nat.reduceEqDiff, false_and, and_false, true_and, and_true, reduceIte] at r57 ⊢
      refine AW.iconst (pc' := 61) dX12_law_60 ?_
      refine AW.isub (pc' := 62) dX12_law_61 ?_
      refine AW.iret dX12_law_62 ?_ ?_
      · refine congrArg (fun z : Int => (some (vI z) : Option AV)) ?_
        rw [if_neg (by omega), if_neg (by omega)]
        omega
      · exact Or.inr ⟨by omega, h12, s12, Or.inr ⟨by omega, rfl⟩⟩
    · refine AW.bipush (pc' := 27) dX12_law_25 (by decide) ?_
      refine AW.aload_n (pc' := 28) dX12_law_27 rfl ?_
      refine AW.getI (pc' := 31) dX12_law_28 ly_57 fX12_200 rfl (fun r28 => ?_)
      try simp only [e30, a3, a4] at r28 ⊢
      try simp only [hset_app, Nat.reduceEqDiff, false_and, and_false, true_and, and_true, reduceIte] at r28 ⊢
      simp only [a3]
      refine AW.isub (pc' := 32) dX12_law_31 ?_
      refine AW.iret dX12_law_32 ?_ ?_
      · refine congrArg (fun z : Int => (some (vI z) : Option AV)) ?_
        rw [if_neg (by omega), if_pos (by omega)]
      · exact Or.inr ⟨by omega, h12, s12, Or.inl ⟨by omega, rfl⟩⟩
  · refine AW.bipush (pc' := 10) dX12_law_8 (by decide) ?_
    refine AW.iret dX12_law_10 ?_ ?_
    · refine congrArg (fun z : Int => (some (vI z) : Option AV)) ?_
      rw [if_pos (by omega)]
    · exact Or.inl ⟨by omega, rfl⟩
