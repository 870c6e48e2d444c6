/-! the tape: feed, both -/
def byX (v : Int) (k : Nat) : Int := (Int32.ofInt (((Int32.ofInt v).toUInt32 >>> ((Int32.ofInt (8 * (k : Int))).toUInt32 &&& Int32.toUInt32 31)).toInt32.toInt)).toInt8.toInt32.toInt
def byM (v : Int) (k : Nat) : Int := (Int32.ofInt ((Int32.ofInt v >>> (Int32.ofInt (8 * (k : Int)) &&& 31)).toInt) &&& Int32.ofInt 255).toInt
theorem in8 (x : Int8) : inB x.toInt32.toInt := by
  rw [Int8.toInt_toInt32]
  exact ⟨Int8.le_toInt x, by have := Int8.toInt_lt x; omega⟩
theorem byX_in (v : Int) (k : Nat) : inB (byX v k) := in8 _
theorem byM_in (v : Int) (k : Nat) : inI (byM v k) := in32 _
/-- k bytes of v are come to the tape -/
def TP (h : Hp) (k v : Int) (x : Hp) : Prop := EX [26, 28] h x ∧ (∀ j : Nat, x 26 j = upR (h 26) 4 (h 26 4 + k) j) ∧ ∀ j : Nat, x 28 j = if h 26 4 ≤ j ∧ (j : Int) < h 26 4 + k then byX v (j - (h 26 4).toNat) else h 28 j
def TM (h : Hp) (k v : Int) (x : Hp) : Prop := EX [57, 75] h x ∧ (∀ j : Nat, x 57 j = upR (h 57) 29 (h 57 29 + k) j) ∧ ∀ j : Nat, x 75 j = if h 57 29 ≤ j ∧ (j : Int) < h 57 29 + k then byM v (j - (h 57 29).toNat) else h 75 j
set_option maxRecDepth 100000 in
set_option maxHeartbeats 4000000 in
theorem lp_X5_take {K : KT} {X : XT} {dep : Nat} {h : Hp} {a v : Int} (q0 : 0 ≤ h 26 4) (q1 : h 26 4 + a ≤ 120) (qv : inI v)  : ∀ (m k : Nat) (h1 : Hp), (k : Int) + m = a → TP h k v h1 → (∀ h2 : Hp, TP h a v h2 → AW K X RX5 cX5_take 4 (some .int) dep 53 [some (vR 26), some (vI (a)), some (vI (v)), none] [] h2) → AW K X RX5 cX5_take 4 (some .int) dep 16 [some (vR 26), some (vI (a)), some (vI (v)), some (vI ((k : Int)))] [] h1 := by
  intro m
  induction m with
  | zero =>
    intro k h1 hk t1 kk
    refine AW.iload_n (pc' := 17) dX5_take_16 rfl ?_
    refine AW.iload_n (pc' := 18) dX5_take_17 rfl ?_
    refine AW.icmp_ge (tgt := 53) (pc' := 21) dX5_take_18 (by first | assumption | omega | (constructor <;> omega) | (simp only [Int.toNat_natCast]; omega) | exact b2_in _) (by first | assumption | omega | (constructor <;> omega) | (simp only [Int.toNat_natCast]; omega) | exact b2_in _) (fun c18 => ?_) (fun c18 => ?_)
    · exact AW.weak (kk h1 (by rw [← hk]; simpa using t1)) (by (repeat' first | exact LSub.e | refine LSub.n ?_ | refine LSub.c ?_ ?_) <;> first | rfl | exact congrArg Sum.inl (by first | rfl | omega | omega))
    · omega
  | succ m ih =>
    intro k h1 hk t1 kk
    obtain ⟨e1, t2, t3⟩ := t1
    have f1 : h1 26 4 = h 26 4 + (k : Int) := by rw [t2 4]; simp [upR]
    have bi := byX_in v k
    unfold byX at bi
    refine AW.iload_n (pc' := 17) dX5_take_16 rfl ?_
    refine AW.iload_n (pc' := 18) dX5_take_17 rfl ?_
    refine AW.icmp_ge (tgt := 53) (pc' := 21) dX5_take_18 (by first | assumption | omega | (constructor <;> omega) | (simp only [Int.toNat_natCast]; omega) | exact b2_in _) (by first | assumption | omega | (constructor <;> omega) | (simp only [Int.toNat_natCast]; omega) | exact b2_in _) (fun c18 => ?_) (fun c18 => ?_)
    · omega
    · refine AW.aload_n (pc' := 22) dX5_take_21 rfl ?_
      refine AW.getR (pc' := 25) dX5_take_22 ly_26 fX5_15 rfl ?_
      refine AW.aload_n (pc' := 26) dX5_take_25 rfl ?_
      refine AW.getI (pc' := 29) dX5_take_26 ly_26 fX5_30 rfl (fun r26 => ?_)
      try simp only [f1] at r26 ⊢
      refine AW.iload_n (pc' := 30) dX5_take_29 rfl ?_
      refine AW.bipush (pc' := 32) dX5_take_30 (by decide) ?_
      refine AW.iload_n (pc' := 33) dX5_take_32 rfl ?_
      refine AW.imul (pc' := 34) dX5_take_33 ?_
      refine AW.iushr (pc' := 35) dX5_take_34 ?_
      refine AW.i2b (pc' := 36) dX5_take_35 ?_
      refine AW.bast (pc' := 37) dX5_take_36 ly_28 (by first | assumption | omega | (constructor <;> omega) | (simp only [Int.toNat_natCast]; omega) | exact b2_in _) (by first | assumption | omega | (constructor <;> omega) | (simp only [Int.toNat_natCast]; omega) | exact b2_in _) (by decide) (by first | assumption | omega | (constructor <;> omega) | (simp only [Int.toNat_natCast]; omega) | exact b2_in _) ?_
      refine AW.aload_n (pc' := 38) dX5_take_37 rfl ?_
      refine AW.dup (pc' := 39) dX5_take_38 rfl ?_
      refine AW.getI (pc' := 42) dX5_take_39 ly_26 fX5_30 rfl (fun r39 => ?_)
      try simp only [f1] at r39 ⊢
      try simp only [hset_app, Nat.reduceEqDiff, false_and, and_false, true_and, and_true, reduceIte] at r39 ⊢
      refine AW.iconst (pc' := 43) dX5_take_42 ?_
      refine AW.iadd (pc' := 44) dX5_take_43 ?_
      refine AW.putI (pc' := 47) dX5_take_44 ly_26 pX5_30 rfl (by first | assumption | omega | (constructor <;> omega) | (simp only [Int.toNat_natCast]; omega) | exact b2_in _) ?_
      refine AW.iinc3 (pc' := 50) dX5_take_47 (by decide) rfl ?_
      refine AW.goto (tgt := 16) dX5_take_50 ?_
      refine AW.weak (ih (k + 1) _ (by omega) ⟨(e1.st rfl).st rfl, fun j => ?_, fun j => ?_⟩ kk) (by (repeat' first | exact LSub.e | refine LSub.n ?_ | refine LSub.c ?_ ?_) <;> first | rfl | exact congrArg Sum.inl (by first | rfl | omega | omega))
      · by_cases z : j = 4
        · subst z; simp [hset_app, upR, f1]; try omega
        · simp [hset_app, z, t2 j, upR]
      · simp only [hset_app, Nat.reduceEqDiff, false_and, reduceIte, true_and]
        by_cases z : j = (h 26 4 + (k : Int)).toNat
        · rw [if_pos z, if_pos ⟨by omega, by push_cast; omega⟩]
          have e9 : j - (h 26 4).toNat = k := by omega
          rw [e9]; rfl
        · rw [if_neg z, t3 j]
          by_cases y : h 26 4 ≤ j ∧ (j : Int) < h 26 4 + (k : Int)
          · rw [if_pos y, if_pos ⟨y.1, by push_cast; omega⟩]
          · rw [if_neg y, if_neg (fun w => y ⟨w.1, by have := w.2; push_cast at this; omega⟩)]
set_option maxRecDepth 100000 in
set_option maxHeartbeats 4000000 in
theorem lp_X12_feed {K : KT} {X : XT} {dep : Nat} {h : Hp} {a v : Int} (q0 : 0 ≤ h 57 29) (q1 : h 57 29 + a ≤ 120) (qv : inI v)  : ∀ (m k : Nat) (h1 : Hp), (k : Int) + m = a → TM h k v h1 → (∀ h2 : Hp, TM h a v h2 → AW K X RX12 cX12_feed 4 (some .int) dep 67 [some (vR 57), some (vI (a)), some (vI (v)), none] [] h2) → AW K X RX12 cX12_feed 4 (some .int) dep 27 [some (vR 57), some (vI (a)), some (vI (v)), some (vI ((k : Int)))] [] h1 := by
  intro m
  induction m with
  | zero =>
    intro k h1 hk t1 kk
    refine AW.iload_n (pc' := 28) dX12_feed_27 rfl ?_
    refine AW.iload_n (pc' := 29) dX12_feed_28 rfl ?_
    refine AW.icmp_ge (tgt := 67) (pc' := 32) dX12_feed_29 (by first | assumption | omega | (constructor <;> omega) | (simp only [Int.toNat_natCast]; omega) | exact b2_in _) (by first | assumption | omega | (constructor <;> omega) | (simp only [Int.toNat_natCast]; omega) | exact b2_in _) (fun c29 => ?_) (fun c29 => ?_)
    · exact AW.weak (kk h1 (by rw [← hk]; simpa using t1)) (by (repeat' first | exact LSub.e | refine LSub.n ?_ | refine LSub.c ?_ ?_) <;> first | rfl | exact congrArg Sum.inl (by first | rfl | omega | omega))
    · omega
  | succ m ih =>
    intro k h1 hk t1 kk
    obtain ⟨e1, t2, t3⟩ := t1
    have f1 : h1 57 29 = h 57 29 + (k : Int) := by rw [t2 29]; simp [upR]
    have bi := byM_in v k
    unfold byM at bi
    refine AW.iload_n (pc' := 28) dX12_feed_27 rfl ?_
    refine AW.iload_n (pc' := 29) dX12_feed_28 rfl ?_
    refine AW.icmp_ge (tgt := 67) (pc' := 32) dX12_feed_29 (by first | assumption | omega | (constructor <;> omega) | (simp only [Int.toNat_natCast]; omega) | exact b2_in _) (by first | assumption | omega | (constructor <;> omega) | (simp only [Int.toNat_natCast]; omega) | exact b2_in _) (fun c29 => ?_) (fun c29 => ?_)
    · omega
    · refine AW.aload_n (pc' := 33) dX12_feed_32 rfl ?_
      refine AW.getR (pc' := 36) dX12_feed_33 ly_57 fX12_65 rfl ?_
      refine AW.aload_n (pc' := 37) dX12_feed_36 rfl ?_
      refine AW.getI (pc' := 40) dX12_feed_37 ly_57 fX12_181 rfl (fun r37 => ?_)
      try simp only [f1] at r37 ⊢
      refine AW.iload_n (pc' := 41) dX12_feed_40 rfl ?_
      refine AW.bipush (pc' := 43) dX12_feed_41 (by decide) ?_
      refine AW.iload_n (pc' := 44) dX12_feed_43 rfl ?_
      refine AW.imul (pc' := 45) dX12_feed_44 ?_
      refine AW.ishr (pc' := 46) dX12_feed_45 ?_
      refine AW.sipush (pc' := 49) dX12_feed_46 (by decide) ?_
      refine AW.iand (pc' := 50) dX12_feed_49 ?_
      first | refine AW.iastN (pc' := 51) dX12_feed_50 ly_75 (by first | assumption | omega | (constructor <;> omega) | (simp only [Int.toNat_natCast]; omega) | exact b2_in _) (by decide) (by first | assumption | omega | (constructor <;> omega) | (simp only [Int.toNat_natCast]; omega) | exact b2_in _) ?_ | refine AW.iast (pc' := 51) dX12_feed_50 ly_75 (by first | assumption | omega | (constructor <;> omega) | (simp only [Int.toNat_natCast]; omega) | exact b2_in _) (by first | assumption | omega | (constructor <;> omega) | (simp only [Int.toNat_natCast]; omega) | exact b2_in _) (by decide) (by first | assumption | omega | (constructor <;> omega) | (simp only [Int.toNat_natCast]; omega) | exact b2_in _) ?_
      refine AW.aload_n (pc' := 52) dX12_feed_51 rfl ?_
      refine AW.dup (pc' := 53) dX12_feed_52 rfl ?_
      refine AW.getI (pc' := 56) dX12_feed_53 ly_57 fX12_181 rfl (fun r53 => ?_)
      try simp only [f1] at r53 ⊢
      try simp only [hset_app, Nat.reduceEqDiff, false_and, and_false, true_and, and_true, reduceIte] at r53 ⊢
      refine AW.iconst (pc' := 57) dX12_feed_56 ?_
      refine AW.iadd (pc' := 58) dX12_feed_57 ?_
      refine AW.putI (pc' := 61) dX12_feed_58 ly_57 pX12_181 rfl (by first | assumption | omega | (constructor <;> omega) | (simp only [Int.toNat_natCast]; omega) | exact b2_in _) ?_
      refine AW.iinc3 (pc' := 64) dX12_feed_61 (by decide) rfl ?_
      refine AW.goto (tgt := 27) dX12_feed_64 ?_
      refine AW.weak (ih (k + 1) _ (by omega) ⟨(e1.st rfl).st rfl, fun j => ?_, fun j => ?_⟩ kk) (by (repeat' first | exact LSub.e | refine LSub.n ?_ | refine LSub.c ?_ ?_) <;> first | rfl | exact congrArg Sum.inl (by first | rfl | omega | omega))
      · by_cases z : j = 29
        · subst z; simp [hset_app, upR, f1]; try omega
        · simp [hset_app, z, t2 j, upR]
      · simp only [hset_app, Nat.reduceEqDiff, false_and, reduceIte, true_and]
        by_cases z : j = (h 57 29 + (k : Int)).toNat
        · rw [if_pos z, if_pos ⟨by omega, by push_cast; omega⟩]
          have e9 : j - (h 57 29).toNat = k := by omega
          rw [e9]; rfl
        · rw [if_neg z, t3 j]
          by_cases y : h 57 29 ≤ j ∧ (j : Int) < h 57 29 + (k : Int)
          · rw [if_pos y, if_pos ⟨y.1, by push_cast; omega⟩]
          · rw [if_neg y, if_neg (fun w => y ⟨w.1, by have := w.2; push_cast at this; omega⟩)]
set_option maxRecDepth 100000 in
set_option maxHeartbeats 4000000 in
theorem c_X5_take {K : KT} {dep : Nat} {h : Hp} {a v : Int}  (q0 : 0 ≤ h 26 4 ∧ h 26 4 ≤ 120) (q1 : 1 ≤ a ∧ a ≤ 4) (q2 : inI v) : AMp K yX5_take cX5_take 4 (some .int) dep [vR 26, vI a, vI v] h (some (vI (if 120 < h 26 4 + a then -3 else h 26 4 + a))) (fun x => (120 < h 26 4 + a ∧ x = h) ∨ (h 26 4 + a ≤ 120 ∧ TP h a v x)) := by
  refine AM.of (own := RX5) (ls := [some (vR 26), some (vI a), some (vI v), none]) rfl (by decide +kernel) (by exact Nat.le_of_ble_eq_true rfl) rfl (fun hO => ?_)
  refine AW.aload_n (pc' := 1) dX5_take_0 rfl ?_
  refine AW.getI (pc' := 4) dX5_take_1 ly_26 fX5_30 rfl (fun r1 => ?_)
  refine AW.iload_n (pc' := 5) dX5_take_4 rfl ?_
  refine AW.iadd (pc' := 6) dX5_take_5 ?_
  refine AW.bipush (pc' := 8) dX5_take_6 (by decide) ?_
  refine AW.icmp_le (tgt := 14) (pc' := 11) dX5_take_8 (by first | assumption | omega | (constructor <;> omega) | (simp only [Int.toNat_natCast]; omega) | exact b2_in _) (by first | assumption | omega | (constructor <;> omega) | (simp only [Int.toNat_natCast]; omega) | exact b2_in _) (fun c8 => ?_) (fun c8 => ?_)
  · refine AW.iconst (pc' := 15) dX5_take_14 ?_
    refine AW.istore3n (pc' := 16) dX5_take_15 (by decide) rfl ?_
    refine AW.weak (lp_X5_take q0.1 (by omega) (v := v) (by first | assumption | omega | (constructor <;> omega) | (simp only [Int.toNat_natCast]; omega) | exact b2_in _) a.toNat 0 h (by omega) ⟨EX.rf, fun j => by unfold upR; split <;> simp_all, fun j => by rw [if_neg (by omega)]⟩ (fun h2 t2 => ?_)) (by (repeat' first | exact LSub.e | refine LSub.n ?_ | refine LSub.c ?_ ?_) <;> first | rfl | exact congrArg Sum.inl (by first | rfl | omega | omega))
    have f2 : h2 26 4 = h 26 4 + a := by rw [t2.2.1 4]; simp [upR]
    refine AW.aload_n (pc' := 54) dX5_take_53 rfl ?_
    refine AW.getI (pc' := 57) dX5_take_54 ly_26 fX5_30 rfl (fun r54 => ?_)
    refine AW.iret dX5_take_57 ?_ ?_
    · first | (rw [if_pos (by omega)]; done) | (rw [if_neg (by omega), f2])
    · first | exact Or.inl ⟨by omega, rfl⟩ | exact Or.inr ⟨by omega, t2⟩
  · refine AW.bipush (pc' := 13) dX5_take_11 (by decide) ?_
    refine AW.iret dX5_take_13 ?_ ?_
    · first | (rw [if_pos (by omega)]; done) | (rw [if_neg (by omega), f2])
    · first | exact Or.inl ⟨by omega, rfl⟩ | exact Or.inr ⟨by omega, t2⟩
set_option maxRecDepth 100000 in
set_option maxHeartbeats 4000000 in
theorem c_X11_feed {K : KT} {dep : Nat} {h : Hp} {a v : Int} (hd : 1 ≤ dep) (q0 : 0 ≤ h 26 4 ∧ h 26 4 ≤ 120) (q1 : inI a) (q2 : inI v) : AMp K yX11_feed cX11_feed 3 (some .int) dep [vR 0, vI a, vI v] h (some (vI (if ¬ (1 ≤ a ∧ a ≤ 4) then -1 else if 120 < h 26 4 + a then -3 else h 26 4 + a))) (fun x => ((¬ (1 ≤ a ∧ a ≤ 4) ∨ 120 < h 26 4 + a) ∧ x = h) ∨ ((1 ≤ a ∧ a ≤ 4) ∧ h 26 4 + a ≤ 120 ∧ TP h a v x)) := by
  refine AM.of (own := RX11) (ls := [some (vR 0), some (vI a), some (vI v)]) rfl (by decide +kernel) (by exact Nat.le_of_ble_eq_true rfl) rfl (fun hO => ?_)
  refine AW.iload_n (pc' := 1) dX11_feed_0 rfl ?_
  refine AW.iconst (pc' := 2) dX11_feed_1 ?_
  refine AW.iconst (pc' := 3) dX11_feed_2 ?_
  refine AW.invS3 (pc' := 6) dX11_feed_3 mlX11_89 mX11_within (c_X11_within (dep := dep - 1) (by first | assumption | omega | (constructor <;> omega) | (simp only [Int.toNat_natCast]; omega) | exact b2_in _) (by first | assumption | omega | (constructor <;> omega) | (simp only [Int.toNat_natCast]; omega) | exact b2_in _) (by first | assumption | omega | (constructor <;> omega) | (simp only [Int.toNat_natCast]; omega) | exact b2_in _)) ?_
  refine AW.ifb_ne (tgt := 11) (pc' := 9) dX11_feed_6 (fun c6 => ?_) (fun c6 => ?_)
  · refine AW.aload_n (pc' := 12) dX11_feed_11 rfl ?_
    refine AW.getR (pc' := 15) dX11_feed_12 ly_0 fX11_51 rfl ?_
    refine AW.iload_n (pc' := 16) dX11_feed_15 rfl ?_
    refine AW.iload_n (pc' := 17) dX11_feed_16 rfl ?_
    refine AW.invQ2 (pc' := 20) dX11_feed_17 mlX11_168 mX5_take ly_26 rfl (c_X5_take (dep := dep - 1) (by first | assumption | omega | (constructor <;> omega) | (simp only [Int.toNat_natCast]; omega) | exact b2_in _) (by first | assumption | omega | (constructor <;> omega) | (simp only [Int.toNat_natCast]; omega) | exact b2_in _) (by first | assumption | omega | (constructor <;> omega) | (simp only [Int.toNat_natCast]; omega) | exact b2_in _)) (fun h17 s17 => ?_)
    refine AW.iret dX11_feed_20 ?_ ?_
    · refine congrArg (fun z : Int => (some (vI z) : Option AV)) ?_
      (repeat' split) <;> first | rfl | omega
    · rcases s17 with z | z
      · exact Or.inl ⟨Or.inr z.1, z.2⟩
      · exact Or.inr ⟨by omega, z.1, z.2⟩
  · refine AW.iconst (pc' := 10) dX11_feed_9 ?_
    refine AW.iret dX11_feed_10 ?_ ?_
    · refine congrArg (fun z : Int => (some (vI z) : Option AV)) ?_
      (repeat' split) <;> first | rfl | omega
    · exact Or.inl ⟨by omega, rfl⟩
set_option maxRecDepth 100000 in
set_option maxHeartbeats 4000000 in
theorem c_X12_feed {K : KT} {dep : Nat} {h : Hp} {a v : Int} (hd : 1 ≤ dep) (q0 : 0 ≤ h 57 29 ∧ h 57 29 ≤ 120) (q1 : inI a) (q2 : inI v) : AMp K yX12_feed cX12_feed 4 (some .int) dep [vR 57, vI a, vI v] h (some (vI (if ¬ (1 ≤ a ∧ a ≤ 4) then -1 else if 120 < h 57 29 + a then -3 else h 57 29 + a))) (fun x => ((¬ (1 ≤ a ∧ a ≤ 4) ∨ 120 < h 57 29 + a) ∧ x = h) ∨ ((1 ≤ a ∧ a ≤ 4) ∧ h 57 29 + a ≤ 120 ∧ TM h a v x)) := by
  refine AM.of (own := RX12) (ls := [some (vR 57), some (vI a), some (vI v), none]) rfl (by decide +kernel) (by exact Nat.le_of_ble_eq_true rfl) rfl (fun hO => ?_)
  refine AW.iload_n (pc' := 1) dX12_feed_0 rfl ?_
  refine AW.iconst (pc' := 2) dX12_feed_1 ?_
  refine AW.iconst (pc' := 3) dX12_feed_2 ?_
  refine AW.invS3 (pc' := 6) dX12_feed_3 mlX12_117 mX12_isIn (c_X12_isIn (dep := dep - 1) (by first | assumption | omega | (constructor <;> omega) | (simp only [Int.toNat_natCast]; omega) | exact b2_in _) (by first | assumption | omega | (constructor <;> omega) | (simp only [Int.toNat_natCast]; omega) | exact b2_in _) (by first | assumption | omega | (constructor <;> omega) | (simp only [Int.toNat_natCast]; omega) | exact b2_in _)) ?_
  refine AW.ifb_ne (tgt := 11) (pc' := 9) dX12_feed_6 (fun c6 => ?_) (fun c6 => ?_)
  · refine AW.aload_n (pc' := 12) dX12_feed_11 rfl ?_
    refine AW.getI (pc' := 15) dX12_feed_12 ly_57 fX12_181 rfl (fun r12 => ?_)
    refine AW.iload_n (pc' := 16) dX12_feed_15 rfl ?_
    refine AW.iadd (pc' := 17) dX12_feed_16 ?_
    refine AW.bipush (pc' := 19) dX12_feed_17 (by decide) ?_
    refine AW.icmp_le (tgt := 25) (pc' := 22) dX12_feed_19 (by first | assumption | omega | (constructor <;> omega) | (simp only [Int.toNat_natCast]; omega) | exact b2_in _) (by first | assumption | omega | (constructor <;> omega) | (simp only [Int.toNat_natCast]; omega) | exact b2_in _) (fun c19 => ?_) (fun c19 => ?_)
    · refine AW.iconst (pc' := 26) dX12_feed_25 ?_
      refine AW.istore3n (pc' := 27) dX12_feed_26 (by decide) rfl ?_
      refine AW.weak (lp_X12_feed q0.1 (by omega) (v := v) (by first | assumption | omega | (constructor <;> omega) | (simp only [Int.toNat_natCast]; omega) | exact b2_in _) a.toNat 0 h (by omega) ⟨EX.rf, fun j => by unfold upR; split <;> simp_all, fun j => by rw [if_neg (by omega)]⟩ (fun h2 t2 => ?_)) (by (repeat' first | exact LSub.e | refine LSub.n ?_ | refine LSub.c ?_ ?_) <;> first | rfl | exact congrArg Sum.inl (by first | rfl | omega | omega))
      have f2 : h2 57 29 = h 57 29 + a := by rw [t2.2.1 29]; simp [upR]
      refine AW.aload_n (pc' := 68) dX12_feed_67 rfl ?_
      refine AW.getI (pc' := 71) dX12_feed_68 ly_57 fX12_181 rfl (fun r68 => ?_)
      refine AW.iret dX12_feed_71 ?_ ?_
      · first | (rw [if_pos (by omega)]; done) | (rw [if_neg (by omega), if_pos (by omega)]; done) | (rw [if_neg (by omega), if_neg (by omega), f2])
      · first | exact Or.inl ⟨by omega, rfl⟩ | exact Or.inr ⟨by omega, by omega, t2⟩
    · refine AW.bipush (pc' := 24) dX12_feed_22 (by decide) ?_
      refine AW.iret dX12_feed_24 ?_ ?_
      · first | (rw [if_pos (by omega)]; done) | (rw [if_neg (by omega), if_pos (by omega)]; done) | (rw [if_neg (by omega), if_neg (by omega), f2])
      · first | exact Or.inl ⟨by omega, rfl⟩ | exact Or.inr ⟨by omega, by omega, t2⟩
  · refine AW.iconst (pc' := 10) dX12_feed_9 ?_
    refine AW.iret dX12_feed_10 ?_ ?_
    · first | (rw [if_pos (by omega)]; done) | (rw [if_neg (by omega), if_pos (by omega)]; done) | (rw [if_neg (by omega), if_neg (by omega), f2])
    · first | exact Or.inl ⟨by omega, rfl⟩ | exact Or.inr ⟨by omega, by omega, t2⟩
set_option maxRecDepth 100000 in
set_option maxHeartbeats 4000000 in
theorem c_X12_emits {K : KT} {dep : Nat} {h : Hp} {a : Int}  (q0 : 0 ≤ h 57 32 ∧ h 57 32 < 1000) (q1 : inI a) : AM K yX12_emits cX12_emits 2 none dep [vR 57, vI a] h none (hset (hset h 76 (h 57 32).toNat a) 57 32 (h 57 32 + 1)) := by
  refine AM.of (own := RX12) (ls := [some (vR 57), some (vI a)]) rfl (by decide +kernel) (by exact Nat.le_of_ble_eq_true rfl) rfl (fun hO => ?_)
  refine AW.aload_n (pc' := 1) dX12_emits_0 rfl ?_
  refine AW.getR (pc' := 4) dX12_emits_1 ly_57 fX12_68 rfl ?_
  refine AW.aload_n (pc' := 5) dX12_emits_4 rfl ?_
  refine AW.getI (pc' := 8) dX12_emits_5 ly_57 fX12_184 rfl (fun r5 => ?_)
  refine AW.iload_n (pc' := 9) dX12_emits_8 rfl ?_
  first | refine AW.iastN (pc' := 10) dX12_emits_9 ly_76 (by first | assumption | omega | (constructor <;> omega) | (simp only [Int.toNat_natCast]; omega) | exact b2_in _) (by decide) (by first | assumption | omega | (constructor <;> omega) | (simp only [Int.toNat_natCast]; omega) | exact b2_in _) ?_ | refine AW.iast (pc' := 10) dX12_emits_9 ly_76 (by first | assumption | omega | (constructor <;> omega) | (simp only [Int.toNat_natCast]; omega) | exact b2_in _) (by first | assumption | omega | (constructor <;> omega) | (simp only [Int.toNat_natCast]; omega) | exact b2_in _) (by decide) (by first | assumption | omega | (constructor <;> omega) | (simp only [Int.toNat_natCast]; omega) | exact b2_in _) ?_
  refine AW.aload_n (pc' := 11) dX12_emits_10 rfl ?_
  refine AW.dup (pc' := 12) dX12_emits_11 rfl ?_
  refine AW.getI (pc' := 15) dX12_emits_12 ly_57 fX12_184 rfl (fun r12 => ?_)
  try simp only [hset_app, Nat.reduceEqDiff, false_and, and_false, true_and, and_true, reduceIte] at r12 ⊢
  refine AW.iconst (pc' := 16) dX12_emits_15 ?_
  refine AW.iadd (pc' := 17) dX12_emits_16 ?_
  refine AW.putI (pc' := 20) dX12_emits_17 ly_57 pX12_184 rfl (by first | assumption | omega | (constructor <;> omega) | (simp only [Int.toNat_natCast]; omega) | exact b2_in _) ?_
  refine AW.vret dX12_emits_20 ?_ ?_
  all_goals first | rfl | exact congrArg (fun z : Int => (some (vI z) : Option AV)) (b2_t (by omega)) | exact congrArg (fun z : Int => (some (vI z) : Option AV)) (b2_f (by omega)) | ((repeat' split) <;> first | rfl | omega) | (refine congrArg (fun z : Int => (some (vI z) : Option AV)) ?_; (repeat' split) <;> first | rfl | omega)
set_option maxRecDepth 100000 in
set_option maxHeartbeats 4000000 in
theorem c_X12_above {K : KT} {dep : Nat} {h : Hp} {a : Int}  (q0 : inI a) : AM K yX12_above cX12_above 1 (some .int) dep [vI a] h (some (vI (if a = 3 then 1 else if a = 5 then 2 else if a = 7 then 4 else if a = 0 then -1 else 0))) (h) := by
  refine AM.of (own := RX12) (ls := [some (vI a)]) rfl (by decide +kernel) (by exact Nat.le_of_ble_eq_true rfl) rfl (fun hO => ?_)
  refine AW.iload_n (pc' := 1) dX12_above_0 rfl ?_
  refine AW.iconst (pc' := 2) dX12_above_1 ?_
  refine AW.icmp_ne (tgt := 9) (pc' := 5) dX12_above_2 (by first | assumption | omega | (constructor <;> omega) | (simp only [Int.toNat_natCast]; omega) | exact b2_in _) (by first | assumption | omega | (constructor <;> omega) | (simp only [Int.toNat_natCast]; omega) | exact b2_in _) (fun c2 => ?_) (fun c2 => ?_)
  · refine AW.iload_n (pc' := 10) dX12_above_9 rfl ?_
    refine AW.iconst (pc' := 11) dX12_above_10 ?_
    refine AW.icmp_ne (tgt := 18) (pc' := 14) dX12_above_11 (by first | assumption | omega | (constructor <;> omega) | (simp only [Int.toNat_natCast]; omega) | exact b2_in _) (by first | assumption | omega | (constructor <;> omega) | (simp only [Int.toNat_natCast]; omega) | exact b2_in _) (fun c11 => ?_) (fun c11 => ?_)
    · refine AW.iload_n (pc' := 19) dX12_above_18 rfl ?_
      refine AW.bipush (pc' := 21) dX12_above_19 (by decide) ?_
      refine AW.icmp_ne (tgt := 28) (pc' := 24) dX12_above_21 (by first | assumption | omega | (constructor <;> omega) | (simp only [Int.toNat_natCast]; omega) | exact b2_in _) (by first | assumption | omega | (constructor <;> omega) | (simp only [Int.toNat_natCast]; omega) | exact b2_in _) (fun c21 => ?_) (fun c21 => ?_)
      · refine AW.iload_n (pc' := 29) dX12_above_28 rfl ?_
        refine AW.if_ne (tgt := 36) (pc' := 32) dX12_above_29 (by first | assumption | omega | (constructor <;> omega) | (simp only [Int.toNat_natCast]; omega) | exact b2_in _) (fun c29 => ?_) (fun c29 => ?_)
        · refine AW.iconst (pc' := 37) dX12_above_36 ?_
          refine AW.iret dX12_above_37 ?_ ?_
          all_goals first | rfl | exact congrArg (fun z : Int => (some (vI z) : Option AV)) (b2_t (by omega)) | exact congrArg (fun z : Int => (some (vI z) : Option AV)) (b2_f (by omega)) | ((repeat' split) <;> first | rfl | omega) | (refine congrArg (fun z : Int => (some (vI z) : Option AV)) ?_; (repeat' split) <;> first | rfl | omega)
        · refine AW.iconst (pc' := 33) dX12_above_32 ?_
          refine AW.goto (tgt := 37) dX12_above_33 ?_
          refine AW.iret dX12_above_37 ?_ ?_
          all_goals first | rfl | exact congrArg (fun z : Int => (some (vI z) : Option AV)) (b2_t (by omega)) | exact congrArg (fun z : Int => (some (vI z) : Option AV)) (b2_f (by omega)) | ((repeat' split) <;> first | rfl | omega) | (refine congrArg (fun z : Int => (some (vI z) : Option AV)) ?_; (repeat' split) <;> first | rfl | omega)
      · refine AW.iconst (pc' := 25) dX12_above_24 ?_
        refine AW.goto (tgt := 37) dX12_above_25 ?_
        refine AW.iret dX12_above_37 ?_ ?_
        all_goals first | rfl | exact congrArg (fun z : Int => (some (vI z) : Option AV)) (b2_t (by omega)) | exact congrArg (fun z : Int => (some (vI z) : Option AV)) (b2_f (by omega)) | ((repeat' split) <;> first | rfl | omega) | (refine congrArg (fun z : Int => (some (vI z) : Option AV)) ?_; (repeat' split) <;> first | rfl | omega)
    · refine AW.iconst (pc' := 15) dX12_above_14 ?_
      refine AW.goto (tgt := 37) dX12_above_15 ?_
      refine AW.iret dX12_above_37 ?_ ?_
      all_goals first | rfl | exact congrArg (fun z : Int => (some (vI z) : Option AV)) (b2_t (by omega)) | exact congrArg (fun z : Int => (some (vI z) : Option AV)) (b2_f (by omega)) | ((repeat' split) <;> first | rfl | omega) | (refine congrArg (fun z : Int => (some (vI z) : Option AV)) ?_; (repeat' split) <;> first | rfl | omega)
  · refine AW.iconst (pc' := 6) dX12_above_5 ?_
    refine AW.goto (tgt := 37) dX12_above_6 ?_
    refine AW.iret dX12_above_37 ?_ ?_
    all_goals first | rfl | exact congrArg (fun z : Int => (some (vI z) : Option AV)) (b2_t (by omega)) | exact congrArg (fun z : Int => (some (vI z) : Option AV)) (b2_f (by omega)) | ((repeat' split) <;> first | rfl | omega) | (refine congrArg (fun z : Int => (some (vI z) : Option AV)) ?_; (repeat' split) <;> first | rfl | omega)
