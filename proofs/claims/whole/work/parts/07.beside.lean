/-! changed, beside: the class's scratch cells may change -/
/-- the same but in the cells ks -/
def EX (ks : List Nat) (h h' : Hp) : Prop := ∀ k : Nat, ks.contains k = false → h' k = h k
theorem EX.rf {ks : List Nat} {h : Hp} : EX ks h h := fun _ _ => rfl
theorem EX.tr {ks : List Nat} {h h1 h2 : Hp} (a : EX ks h h1) (b : EX ks h1 h2) : EX ks h h2 := fun k hk => (b k hk).trans (a k hk)
theorem EX.wd {ks ks' : List Nat} {h h1 : Hp} (a : EX ks h h1) (hs : ∀ k : Nat, ks'.contains k = false → ks.contains k = false) : EX ks' h h1 := fun k hk => a k (hs k hk)
theorem EX.st {ks : List Nat} {h h1 : Hp} {k j : Nat} {v : Int} (a : EX ks h h1) (hk : ks.contains k = true) : EX ks h (hset h1 k j v) := fun i hi => by
  rw [hset_other i (fun e => by rw [e, hk] at hi; cases hi)]
  exact a i hi
theorem IXa.ex {ks : List Nat} {h h1 : Hp} (hI : IXa h) (e : EX ks h h1) (hk : ks.all (fun k => decide (18 ≤ k)) = true) : IXa h1 := by
  have q : ∀ k : Nat, k < 18 → h1 k = h k := fun k z => e k (by
    cases z2 : ks.contains k with
    | false => rfl
    | true =>
      have := List.all_eq_true.mp hk k (List.contains_iff_mem.mp z2)
      simp at this
      omega)
  unfold IXa
  rw [q 1 (by decide), q 2 (by decide), q 3 (by decide), q 4 (by decide), q 5 (by decide), q 6 (by decide), q 7 (by decide), q 8 (by decide), q 9 (by decide), q 10 (by decide), q 11 (by decide), q 12 (by decide), q 13 (by decide), q 14 (by decide), q 15 (by decide), q 16 (by decide), q 17 (by decide)]
  exact hI
/-- sums and numbers of old and new ones -/
abbrev T4 : Type := Int × Int × Int × Int
def tal (h : Hp) : T4 := (h 39 0, h 39 1, h 39 2, h 39 3)
def TI (t : T4) (b : Int) : Prop := 0 ≤ t.2.2.1 ∧ 0 ≤ t.2.2.2 ∧ t.2.2.1 + t.2.2.2 ≤ b ∧ 5 * t.2.2.1 ≤ t.1 ∧ t.1 ≤ 59998 * t.2.2.1 ∧ 5 * t.2.2.2 ≤ t.2.1 ∧ t.2.1 ≤ 59998 * t.2.2.2
theorem TI.of {t : T4} {b : Int} {h1 : Hp} (H : TI t b) (e : tal h1 = t) : 0 ≤ h1 39 2 ∧ 0 ≤ h1 39 3 ∧ h1 39 2 + h1 39 3 ≤ b ∧ 5 * h1 39 2 ≤ h1 39 0 ∧ h1 39 0 ≤ 59998 * h1 39 2 ∧ 5 * h1 39 3 ≤ h1 39 1 ∧ h1 39 1 ≤ 59998 * h1 39 3 := by
  subst e
  exact H
def addT (lv : Int) (new : Prop) [Decidable new] (t : T4) : T4 := if new then (t.1, t.2.1 + lv, t.2.2.1, t.2.2.2 + 1) else (t.1 + lv, t.2.1, t.2.2.1 + 1, t.2.2.2)
theorem addT_in {lv b : Int} {new : Prop} {d : Decidable new} {t : T4} (H : TI t b) (h1 : 5 ≤ lv) (h2 : lv ≤ 59998) : TI (addT lv new t) (b + 1) := by
  obtain ⟨t1, t2, t3, t4⟩ := t
  unfold TI addT at *
  simp only at H
  split <;> simp only <;> omega
/-- a run that is seen -/
def seenT (sh gv : Nat → Int) (lv : Nat → Int) (k : Nat) (t : T4) : T4 := if 0 ≤ sh k then addT (lv k) (0 < gv (sh k).toNat) t else t
theorem seenT_in {sh gv lv : Nat → Int} {k : Nat} {b : Int} {t : T4} (H : TI t b) (h1 : 5 ≤ lv k) (h2 : lv k ≤ 59998) : TI (seenT sh gv lv k t) (b + 1) := by
  unfold seenT
  split
  · exact addT_in H h1 h2
  · unfold TI at *; omega
def besF (os o ns n : Int) : Int := ((os.tdiv o - ns.tdiv n) * 1000).tdiv (os.tdiv o)
def tgain (t : T4) : Int := if t.2.2.1 ≤ 0 ∨ t.2.2.2 ≤ 0 then -2000000000 else besF t.1 t.2.2.1 t.2.1 t.2.2.2
theorem mean_in {s n : Int} (h0 : 0 < n) (h1 : 5 * n ≤ s) (h2 : s ≤ 59998 * n) : 5 ≤ s.tdiv n ∧ s.tdiv n ≤ 59998 := by
  rw [Int.tdiv_eq_ediv_of_nonneg (by omega)]
  exact ⟨by rw [Int.le_ediv_iff_mul_le h0]; omega, Int.ediv_le_of_le_mul h0 (by omega)⟩
theorem gain_in {a b : Int} (a1 : 5 ≤ a) (a2 : a ≤ 59998) (b1 : 5 ≤ b) (b2 : b ≤ 59998) : -59993000 ≤ (a - b) * 1000 ∧ (a - b) * 1000 ≤ 59993000 ∧ -12000000 ≤ ((a - b) * 1000).tdiv a ∧ ((a - b) * 1000).tdiv a ≤ 1000 := by
  refine ⟨by omega, by omega, ?_⟩
  rcases Int.le_total 0 ((a - b) * 1000) with h | h
  · rw [Int.tdiv_eq_ediv_of_nonneg h]
    have := Int.ediv_nonneg h (by omega : 0 ≤ a)
    have h2 : (a - b) * 1000 / a ≤ 1000 := Int.ediv_le_of_le_mul (by omega) (by omega)
    omega
  · have e : ((a - b) * 1000).tdiv a = -((b - a) * 1000 / a) := by
      rw [← Int.tdiv_eq_ediv_of_nonneg (by omega), ← Int.neg_tdiv]
      congr 1
      omega
    rw [e]
    have := Int.ediv_nonneg (by omega : 0 ≤ (b - a) * 1000) (by omega : 0 ≤ a)
    have h2 : (b - a) * 1000 / a ≤ 12000000 := Int.ediv_le_of_le_mul (by omega) (by omega)
    omega
theorem besF_in {t : T4} {b : Int} (H : TI t b) (ho : 0 < t.2.2.1) (hn : 0 < t.2.2.2) : 5 ≤ t.1.tdiv t.2.2.1 ∧ t.1.tdiv t.2.2.1 ≤ 59998 ∧ 5 ≤ t.2.1.tdiv t.2.2.2 ∧ t.2.1.tdiv t.2.2.2 ≤ 59998 ∧ -12000000 ≤ besF t.1 t.2.2.1 t.2.1 t.2.2.2 ∧ besF t.1 t.2.2.1 t.2.1 t.2.2.2 ≤ 1000 := by
  obtain ⟨h1, h2, h3, h4, h5, h6, h7⟩ := H
  obtain ⟨a1, a2⟩ := mean_in ho h4 h5
  obtain ⟨b1, b2⟩ := mean_in hn h6 h7
  obtain ⟨g1, g2, g3, g4⟩ := gain_in a1 a2 b1 b2
  exact ⟨a1, a2, b1, b2, g3, g4⟩
theorem tgain_in {t : T4} {b : Int} (H : TI t b) : tgain t = -2000000000 ∨ -12000000 ≤ tgain t ∧ tgain t ≤ 1000 := by
  unfold tgain
  split
  · exact Or.inl rfl
  · have := besF_in H (by omega) (by omega)
    omega
set_option maxRecDepth 100000 in
set_option maxHeartbeats 4000000 in
theorem c_X10_gained {K : KT} {dep : Nat} {h : Hp}  (hd : 1 ≤ dep) (q0 : TI (tal h) 1000) : AM K yX10_gained cX10_gained 5 (some .int) dep [vR 39] h (some (vI (tgain (tal h)))) (h) := by
  refine AM.of (own := RX10) (ls := [some (vR 39), none, none, none, none]) rfl (by decide +kernel) (by exact Nat.le_of_ble_eq_true rfl) rfl (fun hO => ?_)
  have b1 := besF_in (t := tal h) q0
  unfold TI tal at q0
  simp only [tal] at b1 q0
  refine AW.aload_n (pc' := 1) dX10_gained_0 rfl ?_
  refine AW.getI (pc' := 4) dX10_gained_1 ly_39 fX10_18 rfl (fun r1 => ?_)
  refine AW.if_le (tgt := 14) (pc' := 7) dX10_gained_4 (by first | assumption | omega | (constructor <;> omega) | (simp only [Int.toNat_natCast]; omega) | exact b2_in _) (fun c4 => ?_) (fun c4 => ?_)
  · refine AW.ldc (v := -2000000000) (pc' := 16) dX10_gained_14 kX10_29 ?_
    refine AW.iret dX10_gained_16 ?_ ?_
    · first | rfl | (refine congrArg (fun z : Int => (some (vI z) : Option AV)) ?_
                     unfold tgain tal besF
                     simp only
                     (repeat' split) <;> first | rfl | omega)
    · rfl
  · refine AW.aload_n (pc' := 8) dX10_gained_7 rfl ?_
    refine AW.getI (pc' := 11) dX10_gained_8 ly_39 fX10_22 rfl (fun r8 => ?_)
    refine AW.if_gt (tgt := 17) (pc' := 14) dX10_gained_11 (by first | assumption | omega | (constructor <;> omega) | (simp only [Int.toNat_natCast]; omega) | exact b2_in _) (fun c11 => ?_) (fun c11 => ?_)
    · have b2 := b1 (by omega) (by omega)
      refine AW.aload_n (pc' := 18) dX10_gained_17 rfl ?_
      refine AW.getL (pc' := 21) dX10_gained_18 ly_39 fX10_9 rfl (fun r18 => ?_)
      refine AW.aload_n (pc' := 22) dX10_gained_21 rfl ?_
      refine AW.getI (pc' := 25) dX10_gained_22 ly_39 fX10_18 rfl (fun r22 => ?_)
      refine AW.i2l (pc' := 26) dX10_gained_25 (by first | assumption | omega | (constructor <;> omega) | (simp only [Int.toNat_natCast]; omega) | exact b2_in _) ?_
      refine AW.ldiv (pc' := 27) dX10_gained_26 (by first | assumption | omega | (constructor <;> omega) | (simp only [Int.toNat_natCast]; omega) | exact b2_in _) (by first | assumption | omega | (constructor <;> omega) | (simp only [Int.toNat_natCast]; omega) | exact b2_in _) (by first | assumption | omega | (constructor <;> omega) | (simp only [Int.toNat_natCast]; omega) | exact b2_in _) ?_
      refine AW.lstore1n (pc' := 28) dX10_gained_27 (by decide) rfl ?_
      refine AW.aload_n (pc' := 29) dX10_gained_28 rfl ?_
      refine AW.getL (pc' := 32) dX10_gained_29 ly_39 fX10_15 rfl (fun r29 => ?_)
      refine AW.aload_n (pc' := 33) dX10_gained_32 rfl ?_
      refine AW.getI (pc' := 36) dX10_gained_33 ly_39 fX10_22 rfl (fun r33 => ?_)
      refine AW.i2l (pc' := 37) dX10_gained_36 (by first | assumption | omega | (constructor <;> omega) | (simp only [Int.toNat_natCast]; omega) | exact b2_in _) ?_
      refine AW.ldiv (pc' := 38) dX10_gained_37 (by first | assumption | omega | (constructor <;> omega) | (simp only [Int.toNat_natCast]; omega) | exact b2_in _) (by first | assumption | omega | (constructor <;> omega) | (simp only [Int.toNat_natCast]; omega) | exact b2_in _) (by first | assumption | omega | (constructor <;> omega) | (simp only [Int.toNat_natCast]; omega) | exact b2_in _) ?_
      refine AW.lstore3n (pc' := 39) dX10_gained_38 (by decide) rfl ?_
      refine AW.lload_n (pc' := 40) dX10_gained_39 rfl ?_
      refine AW.lload_n (pc' := 41) dX10_gained_40 rfl ?_
      refine AW.lsub (pc' := 42) dX10_gained_41 ?_
      refine AW.ldc2 (v := 1000) (pc' := 45) dX10_gained_42 klX10_30 ?_
      refine AW.lmul (pc' := 46) dX10_gained_45 ?_
      refine AW.lload_n (pc' := 47) dX10_gained_46 rfl ?_
      refine AW.invN2 (pc' := 50) dX10_gained_47 (by decide +kernel) mX11_cut (c_X11_cut (dep := dep - 1) (by first | assumption | omega | (constructor <;> omega) | (simp only [Int.toNat_natCast]; omega) | exact b2_in _) (by first | assumption | omega | (constructor <;> omega) | (simp only [Int.toNat_natCast]; omega) | exact b2_in _)) ?_
      refine AW.iret dX10_gained_50 ?_ ?_
      · first | rfl | (refine congrArg (fun z : Int => (some (vI z) : Option AV)) ?_
                       unfold tgain tal besF
                       simp only
                       (repeat' split) <;> first | rfl | omega)
      · rfl
    · refine AW.ldc (v := -2000000000) (pc' := 16) dX10_gained_14 kX10_29 ?_
      refine AW.iret dX10_gained_16 ?_ ?_
      · first | rfl | (refine congrArg (fun z : Int => (some (vI z) : Option AV)) ?_
                       unfold tgain tal besF
                       simp only
                       (repeat' split) <;> first | rfl | omega)
      · rfl
set_option maxRecDepth 100000 in
set_option maxHeartbeats 4000000 in
theorem c_X10_add0 {K : KT} {dep : Nat} {h : Hp} {a : Int}  (q0 : 0 ≤ a ∧ a ≤ 100000) (q1 : 0 ≤ h 39 1 ∧ h 39 1 ≤ 100000000 ∧ 0 ≤ h 39 0 ∧ h 39 0 ≤ 100000000) (q2 : 0 ≤ h 39 3 ∧ h 39 3 ≤ 1000 ∧ 0 ≤ h 39 2 ∧ h 39 2 ≤ 1000) : AM K yX10_add cX10_add 3 none dep [vR 39, vI a, vI 0] h none (hset (hset h 39 0 (h 39 0 + a)) 39 2 (h 39 2 + 1)) := by
  refine AM.of (own := RX10) (ls := [some (vR 39), some (vI a), some (vI 0)]) rfl (by decide +kernel) (by exact Nat.le_of_ble_eq_true rfl) rfl (fun hO => ?_)
  refine AW.iload_n (pc' := 1) dX10_add_0 rfl ?_
  refine AW.if_eq (tgt := 28) (pc' := 4) dX10_add_1 (by first | assumption | omega | (constructor <;> omega) | (simp only [Int.toNat_natCast]; omega) | exact b2_in _) (fun c1 => ?_) (fun c1 => ?_)
  · refine AW.aload_n (pc' := 29) dX10_add_28 rfl ?_
    refine AW.dup (pc' := 30) dX10_add_29 rfl ?_
    refine AW.getL (pc' := 33) dX10_add_30 ly_39 fX10_9 rfl (fun r30 => ?_)
    refine AW.iload_n (pc' := 34) dX10_add_33 rfl ?_
    refine AW.i2l (pc' := 35) dX10_add_34 (by first | assumption | omega | (constructor <;> omega) | (simp only [Int.toNat_natCast]; omega) | exact b2_in _) ?_
    refine AW.ladd (pc' := 36) dX10_add_35 ?_
    refine AW.putL (pc' := 39) dX10_add_36 ly_39 pX10_9 rfl (by first | assumption | omega | (constructor <;> omega) | (simp only [Int.toNat_natCast]; omega) | exact b2_in _) ?_
    refine AW.aload_n (pc' := 40) dX10_add_39 rfl ?_
    refine AW.dup (pc' := 41) dX10_add_40 rfl ?_
    refine AW.getI (pc' := 44) dX10_add_41 ly_39 fX10_18 rfl (fun r41 => ?_)
    try simp only [hset_app, Nat.reduceEqDiff, false_and, and_false, true_and, and_true, reduceIte] at r41 ⊢
    refine AW.iconst (pc' := 45) dX10_add_44 ?_
    refine AW.iadd (pc' := 46) dX10_add_45 ?_
    refine AW.putI (pc' := 49) dX10_add_46 ly_39 pX10_18 rfl (by first | assumption | omega | (constructor <;> omega) | (simp only [Int.toNat_natCast]; omega) | exact b2_in _) ?_
    refine AW.vret dX10_add_49 ?_ ?_
    all_goals first | rfl | exact congrArg (fun z : Int => (some (vI z) : Option AV)) (b2_t (by omega)) | exact congrArg (fun z : Int => (some (vI z) : Option AV)) (b2_f (by omega)) | ((repeat' split) <;> first | rfl | omega)
  · omega
set_option maxRecDepth 100000 in
set_option maxHeartbeats 4000000 in
theorem c_X10_add1 {K : KT} {dep : Nat} {h : Hp} {a : Int}  (q0 : 0 ≤ a ∧ a ≤ 100000) (q1 : 0 ≤ h 39 1 ∧ h 39 1 ≤ 100000000 ∧ -100000000 ≤ h 39 0 ∧ h 39 0 ≤ 100000000) (q2 : 0 ≤ h 39 3 ∧ h 39 3 ≤ 1000 ∧ -1000 ≤ h 39 2 ∧ h 39 2 ≤ 1000) : AM K yX10_add cX10_add 3 none dep [vR 39, vI a, vI 1] h none (hset (hset h 39 1 (h 39 1 + a)) 39 3 (h 39 3 + 1)) := by
  refine AM.of (own := RX10) (ls := [some (vR 39), some (vI a), some (vI 1)]) rfl (by decide +kernel) (by exact Nat.le_of_ble_eq_true rfl) rfl (fun hO => ?_)
  refine AW.iload_n (pc' := 1) dX10_add_0 rfl ?_
  refine AW.if_eq (tgt := 28) (pc' := 4) dX10_add_1 (by first | assumption | omega | (constructor <;> omega) | (simp only [Int.toNat_natCast]; omega) | exact b2_in _) (fun c1 => ?_) (fun c1 => ?_)
  · refine AW.aload_n (pc' := 29) dX10_add_28 rfl ?_
    refine AW.dup (pc' := 30) dX10_add_29 rfl ?_
    refine AW.getL (pc' := 33) dX10_add_30 ly_39 fX10_9 rfl (fun r30 => ?_)
    refine AW.iload_n (pc' := 34) dX10_add_33 rfl ?_
    refine AW.i2l (pc' := 35) dX10_add_34 (by first | assumption | omega | (constructor <;> omega) | (simp only [Int.toNat_natCast]; omega) | exact b2_in _) ?_
    refine AW.ladd (pc' := 36) dX10_add_35 ?_
    refine AW.putL (pc' := 39) dX10_add_36 ly_39 pX10_9 rfl (by first | assumption | omega | (constructor <;> omega) | (simp only [Int.toNat_natCast]; omega) | exact b2_in _) ?_
    refine AW.aload_n (pc' := 40) dX10_add_39 rfl ?_
    refine AW.dup (pc' := 41) dX10_add_40 rfl ?_
    refine AW.getI (pc' := 44) dX10_add_41 ly_39 fX10_18 rfl (fun r41 => ?_)
    try simp only [hset_app, Nat.reduceEqDiff, false_and, and_false, true_and, and_true, reduceIte] at r41 ⊢
    refine AW.iconst (pc' := 45) dX10_add_44 ?_
    refine AW.iadd (pc' := 46) dX10_add_45 ?_
    refine AW.putI (pc' := 49) dX10_add_46 ly_39 pX10_18 rfl (by first | assumption | omega | (constructor <;> omega) | (simp only [Int.toNat_natCast]; omega) | exact b2_in _) ?_
    refine AW.vret dX10_add_49 ?_ ?_
    all_goals first | rfl | exact congrArg (fun z : Int => (some (vI z) : Option AV)) (b2_t (by omega)) | exact congrArg (fun z : Int => (some (vI z) : Option AV)) (b2_f (by omega)) | ((repeat' split) <;> first | rfl | omega)
  · refine AW.aload_n (pc' := 5) dX10_add_4 rfl ?_
    refine AW.dup (pc' := 6) dX10_add_5 rfl ?_
    refine AW.getL (pc' := 9) dX10_add_6 ly_39 fX10_15 rfl (fun r6 => ?_)
    refine AW.iload_n (pc' := 10) dX10_add_9 rfl ?_
    refine AW.i2l (pc' := 11) dX10_add_10 (by first | assumption | omega | (constructor <;> omega) | (simp only [Int.toNat_natCast]; omega) | exact b2_in _) ?_
    refine AW.ladd (pc' := 12) dX10_add_11 ?_
    refine AW.putL (pc' := 15) dX10_add_12 ly_39 pX10_15 rfl (by first | assumption | omega | (constructor <;> omega) | (simp only [Int.toNat_natCast]; omega) | exact b2_in _) ?_
    refine AW.aload_n (pc' := 16) dX10_add_15 rfl ?_
    refine AW.dup (pc' := 17) dX10_add_16 rfl ?_
    refine AW.getI (pc' := 20) dX10_add_17 ly_39 fX10_22 rfl (fun r17 => ?_)
    try simp only [hset_app, Nat.reduceEqDiff, false_and, and_false, true_and, and_true, reduceIte] at r17 ⊢
    refine AW.iconst (pc' := 21) dX10_add_20 ?_
    refine AW.iadd (pc' := 22) dX10_add_21 ?_
    refine AW.putI (pc' := 25) dX10_add_22 ly_39 pX10_22 rfl (by first | assumption | omega | (constructor <;> omega) | (simp only [Int.toNat_natCast]; omega) | exact b2_in _) ?_
    refine AW.goto (tgt := 49) dX10_add_25 ?_
    refine AW.vret dX10_add_49 ?_ ?_
    all_goals first | rfl | exact congrArg (fun z : Int => (some (vI z) : Option AV)) (b2_t (by omega)) | exact congrArg (fun z : Int => (some (vI z) : Option AV)) (b2_f (by omega)) | ((repeat' split) <;> first | rfl | omega)
set_option maxRecDepth 100000 in
set_option maxHeartbeats 4000000 in
theorem c_X2_addSeen {K : KT} {dep : Nat} {h : Hp} {a : Int} (hd : 3 ≤ dep) (hI : IXa h) (q0 : 0 ≤ a ∧ a < h 12 10) (q1 : TI (tal h) 900) : AMp K yX2_addSeen cX2_addSeen 2 none dep [vR 35, vI a] h none (fun x => EX [39] h x ∧ tal x = seenT (h 17) (h 8) (lvl (h 16) (h 11) (h 14)) a.toNat (tal h)) := by
  refine AM.of (own := RX2) (ls := [some (vR 35), some (vI a)]) rfl (by decide +kernel) (by exact Nat.le_of_ble_eq_true rfl) rfl (fun hO => ?_)
  have g5 := hI.2.2.2.2.2 a.toNat (by omega)
  obtain ⟨g1, g2, g3, g4⟩ := lvl_in hI.2.2.2 hI.2.2.1 (r := a.toNat) (by omega)
  have g6 := hI.2.2.2.2.1
  have g7 := hI.2.1.2.1
  have g8 := TI.of q1 rfl
  refine AW.aload_n (pc' := 1) dX2_addSeen_0 rfl ?_
  refine AW.getR (pc' := 4) dX2_addSeen_1 ly_35 fX2_29 rfl ?_
  refine AW.iload_n (pc' := 5) dX2_addSeen_4 rfl ?_
  refine AW.invV1 (pc' := 8) dX2_addSeen_5 mlX2_38 mX7_isSeen ly_12 rfl (c_X7_isSeen (dep := dep - 1) (by first | assumption | omega | (constructor <;> omega) | (simp only [Int.toNat_natCast]; omega) | exact b2_in _) (by first | assumption | omega | (constructor <;> omega) | (simp only [Int.toNat_natCast]; omega) | exact b2_in _)) ?_
  refine AW.ifb_eq (tgt := 34) (pc' := 11) dX2_addSeen_8 (fun c8 => ?_) (fun c8 => ?_)
  · refine AW.vret dX2_addSeen_34 ?_ ?_
    · rfl
    · refine ⟨?_, ?_⟩
      · first | exact EX.rf | (split <;> exact (EX.rf.st rfl).st rfl)
      · unfold seenT
        by_cases z0 : 0 ≤ h 17 a.toNat
        · rw [if_pos z0]
          unfold addT
          by_cases z : 0 < h 8 (h 17 a.toNat).toNat
          · rw [if_pos z]
            first | omega | (rw [if_pos (by omega)]; simp [tal, hset_app])
          · rw [if_neg z]
            first | omega | (rw [if_neg (by omega)]; simp [tal, hset_app])
        · rw [if_neg z0]
          all_goals first | rfl | omega
  · refine AW.aload_n (pc' := 12) dX2_addSeen_11 rfl ?_
    refine AW.getR (pc' := 15) dX2_addSeen_12 ly_35 fX2_12 rfl ?_
    refine AW.aload_n (pc' := 16) dX2_addSeen_15 rfl ?_
    refine AW.getR (pc' := 19) dX2_addSeen_16 ly_35 fX2_29 rfl ?_
    refine AW.iload_n (pc' := 20) dX2_addSeen_19 rfl ?_
    refine AW.invV1 (pc' := 23) dX2_addSeen_20 mlX2_45 mX7_level ly_12 rfl (c_X7_level (dep := dep - 1) (by first | assumption | omega | (constructor <;> omega) | (simp only [Int.toNat_natCast]; omega) | exact b2_in _) (by first | assumption | omega | (constructor <;> omega) | (simp only [Int.toNat_natCast]; omega) | exact b2_in _) (by first | assumption | omega | (constructor <;> omega) | (simp only [Int.toNat_natCast]; omega) | exact b2_in _)) ?_
    refine AW.aload_n (pc' := 24) dX2_addSeen_23 rfl ?_
    refine AW.getR (pc' := 27) dX2_addSeen_24 ly_35 fX2_29 rfl ?_
    refine AW.iload_n (pc' := 28) dX2_addSeen_27 rfl ?_
    refine AW.invV1 (pc' := 31) dX2_addSeen_28 mlX2_42 mX7_isNew ly_12 rfl (c_X7_isNew (dep := dep - 1) (by first | assumption | omega | (constructor <;> omega) | (simp only [Int.toNat_natCast]; omega) | exact b2_in _) (by first | assumption | omega | (constructor <;> omega) | (simp only [Int.toNat_natCast]; omega) | exact b2_in _) (by first | assumption | omega | (constructor <;> omega) | (simp only [Int.toNat_natCast]; omega) | exact b2_in _)) ?_
    refine AW.invV2v (pc' := 34) dX2_addSeen_31 mlX2_96 mX10_add ly_39 rfl (c_X10_add (dep := dep - 1) (by first | assumption | omega | (constructor <;> omega) | (simp only [Int.toNat_natCast]; omega) | exact b2_in _) (by first | assumption | omega | (constructor <;> omega) | (simp only [Int.toNat_natCast]; omega) | exact b2_in _) (by first | assumption | omega | (constructor <;> omega) | (simp only [Int.toNat_natCast]; omega) | exact b2_in _)) ?_
    refine AW.vret dX2_addSeen_34 ?_ ?_
    · rfl
    · refine ⟨?_, ?_⟩
      · first | exact EX.rf | (split <;> exact (EX.rf.st rfl).st rfl)
      · unfold seenT
        by_cases z0 : 0 ≤ h 17 a.toNat
        · rw [if_pos z0]
          unfold addT
          by_cases z : 0 < h 8 (h 17 a.toNat).toNat
          · rw [if_pos z]
            first | omega | (rw [if_pos (by omega)]; simp [tal, hset_app])
          · rw [if_neg z]
            first | omega | (rw [if_neg (by omega)]; simp [tal, hset_app])
        · rw [if_neg z0]
          all_goals first | rfl | omega
set_option maxRecDepth 100000 in
set_option maxHeartbeats 4000000 in
theorem c_X2_isPair {K : KT} {dep : Nat} {h : Hp} {a b : Int} (hd : 2 ≤ dep) (hI : IXa h) (q0 : 0 ≤ a ∧ a < h 12 10) (q1 : 0 ≤ b ∧ b < h 12 10) : AM K yX2_isPair cX2_isPair 3 (some .boolean) dep [vR 35, vI a, vI b] h (some (vI (b2 (h 13 a.toNat = h 13 b.toNat ∧ 0 ≤ h 17 a.toNat ∧ 0 ≤ h 17 b.toNat)))) (h) := by
  refine AM.of (own := RX2) (ls := [some (vR 35), some (vI a), some (vI b)]) rfl (by decide +kernel) (by exact Nat.le_of_ble_eq_true rfl) rfl (fun hO => ?_)
  have g5 := hI.2.2.2.2.2 a.toNat (by omega)
  have g9 := hI.2.2.2.2.2 b.toNat (by omega)
  have g6 := hI.2.2.2.2.1
  have g7 := hI.2.1.2.1
  refine AW.aload_n (pc' := 1) dX2_isPair_0 rfl ?_
  refine AW.getR (pc' := 4) dX2_isPair_1 ly_35 fX2_29 rfl ?_
  refine AW.getR (pc' := 7) dX2_isPair_4 ly_12 fX2_33 rfl ?_
  refine AW.iload_n (pc' := 8) dX2_isPair_7 rfl ?_
  first | refine AW.ialdN (pc' := 9) dX2_isPair_8 ly_13 (by first | assumption | omega | (constructor <;> omega) | (simp only [Int.toNat_natCast]; omega) | exact b2_in _) (by decide) (fun r8 => ?_) | refine AW.iald (pc' := 9) dX2_isPair_8 ly_13 (by first | assumption | omega | (constructor <;> omega) | (simp only [Int.toNat_natCast]; omega) | exact b2_in _) (by first | assumption | omega | (constructor <;> omega) | (simp only [Int.toNat_natCast]; omega) | exact b2_in _) (by decide) (fun r8 => ?_)
  refine AW.aload_n (pc' := 10) dX2_isPair_9 rfl ?_
  refine AW.getR (pc' := 13) dX2_isPair_10 ly_35 fX2_29 rfl ?_
  refine AW.getR (pc' := 16) dX2_isPair_13 ly_12 fX2_33 rfl ?_
  refine AW.iload_n (pc' := 17) dX2_isPair_16 rfl ?_
  first | refine AW.ialdN (pc' := 18) dX2_isPair_17 ly_13 (by first | assumption | omega | (constructor <;> omega) | (simp only [Int.toNat_natCast]; omega) | exact b2_in _) (by decide) (fun r17 => ?_) | refine AW.iald (pc' := 18) dX2_isPair_17 ly_13 (by first | assumption | omega | (constructor <;> omega) | (simp only [Int.toNat_natCast]; omega) | exact b2_in _) (by first | assumption | omega | (constructor <;> omega) | (simp only [Int.toNat_natCast]; omega) | exact b2_in _) (by decide) (fun r17 => ?_)
  refine AW.icmp_ne (tgt := 47) (pc' := 21) dX2_isPair_18 (by first | assumption | omega | (constructor <;> omega) | (simp only [Int.toNat_natCast]; omega) | exact b2_in _) (by first | assumption | omega | (constructor <;> omega) | (simp only [Int.toNat_natCast]; omega) | exact b2_in _) (fun c18 => ?_) (fun c18 => ?_)
  · refine AW.iconst (pc' := 48) dX2_isPair_47 ?_
    refine AW.zret dX2_isPair_48 ?_ ?_ (by first | exact Or.inl rfl | exact Or.inr rfl | exact b2_01 _ | assumption | (subst_vars; omega))
    all_goals first | rfl | exact congrArg (fun z : Int => (some (vI z) : Option AV)) (b2_t (by omega)) | exact congrArg (fun z : Int => (some (vI z) : Option AV)) (b2_f (by omega)) | ((repeat' split) <;> first | rfl | omega)
  · refine AW.aload_n (pc' := 22) dX2_isPair_21 rfl ?_
    refine AW.getR (pc' := 25) dX2_isPair_22 ly_35 fX2_29 rfl ?_
    refine AW.iload_n (pc' := 26) dX2_isPair_25 rfl ?_
    refine AW.invV1 (pc' := 29) dX2_isPair_26 mlX2_38 mX7_isSeen ly_12 rfl (c_X7_isSeen (dep := dep - 1) (by first | assumption | omega | (constructor <;> omega) | (simp only [Int.toNat_natCast]; omega) | exact b2_in _) (by first | assumption | omega | (constructor <;> omega) | (simp only [Int.toNat_natCast]; omega) | exact b2_in _)) ?_
    refine AW.ifb_eq (tgt := 47) (pc' := 32) dX2_isPair_29 (fun c29 => ?_) (fun c29 => ?_)
    · refine AW.iconst (pc' := 48) dX2_isPair_47 ?_
      refine AW.zret dX2_isPair_48 ?_ ?_ (by first | exact Or.inl rfl | exact Or.inr rfl | exact b2_01 _ | assumption | (subst_vars; omega))
      all_goals first | rfl | exact congrArg (fun z : Int => (some (vI z) : Option AV)) (b2_t (by omega)) | exact congrArg (fun z : Int => (some (vI z) : Option AV)) (b2_f (by omega)) | ((repeat' split) <;> first | rfl | omega)
    · refine AW.aload_n (pc' := 33) dX2_isPair_32 rfl ?_
      refine AW.getR (pc' := 36) dX2_isPair_33 ly_35 fX2_29 rfl ?_
      refine AW.iload_n (pc' := 37) dX2_isPair_36 rfl ?_
      refine AW.invV1 (pc' := 40) dX2_isPair_37 mlX2_38 mX7_isSeen ly_12 rfl (c_X7_isSeen (dep := dep - 1) (by first | assumption | omega | (constructor <;> omega) | (simp only [Int.toNat_natCast]; omega) | exact b2_in _) (by first | assumption | omega | (constructor <;> omega) | (simp only [Int.toNat_natCast]; omega) | exact b2_in _)) ?_
      refine AW.ifb_eq (tgt := 47) (pc' := 43) dX2_isPair_40 (fun c40 => ?_) (fun c40 => ?_)
      · refine AW.iconst (pc' := 48) dX2_isPair_47 ?_
        refine AW.zret dX2_isPair_48 ?_ ?_ (by first | exact Or.inl rfl | exact Or.inr rfl | exact b2_01 _ | assumption | (subst_vars; omega))
        all_goals first | rfl | exact congrArg (fun z : Int => (some (vI z) : Option AV)) (b2_t (by omega)) | exact congrArg (fun z : Int => (some (vI z) : Option AV)) (b2_f (by omega)) | ((repeat' split) <;> first | rfl | omega)
      · refine AW.iconst (pc' := 44) dX2_isPair_43 ?_
        refine AW.goto (tgt := 48) dX2_isPair_44 ?_
        refine AW.zret dX2_isPair_48 ?_ ?_ (by first | exact Or.inl rfl | exact Or.inr rfl | exact b2_01 _ | assumption | (subst_vars; omega))
        all_goals first | rfl | exact congrArg (fun z : Int => (some (vI z) : Option AV)) (b2_t (by omega)) | exact congrArg (fun z : Int => (some (vI z) : Option AV)) (b2_f (by omega)) | ((repeat' split) <;> first | rfl | omega)
def sortF (sh gv : Nat → Int) (a b : Nat) : Int := if 0 ≤ sh a ∧ 0 < gv (sh a).toNat then (if 0 ≤ sh b ∧ 0 < gv (sh b).toNat then 3 else 1) else (if 0 ≤ sh b ∧ 0 < gv (sh b).toNat then 0 else 2)
theorem sortF_in (sh gv : Nat → Int) (a b : Nat) : 0 ≤ sortF sh gv a b ∧ sortF sh gv a b ≤ 3 := by unfold sortF; (repeat' split) <;> omega
def gainF (lv : Nat → Int) (a b : Nat) : Int := ((lv a - lv b) * 1000).tdiv (lv a)
set_option maxRecDepth 100000 in
set_option maxHeartbeats 4000000 in
theorem c_X2_sortOf {K : KT} {dep : Nat} {h : Hp} {a b : Int} (hd : 3 ≤ dep) (hI : IXa h) (q0 : 0 ≤ a ∧ a < h 12 10) (q1 : 0 ≤ b ∧ b < h 12 10) : AM K yX2_sortOf cX2_sortOf 3 (some .int) dep [vR 35, vI a, vI b] h (some (vI (sortF (h 17) (h 8) a.toNat b.toNat))) (h) := by
  refine AM.of (own := RX2) (ls := [some (vR 35), some (vI a), some (vI b)]) rfl (by decide +kernel) (by exact Nat.le_of_ble_eq_true rfl) rfl (fun hO => ?_)
  have g5 := hI.2.2.2.2.2 a.toNat (by omega)
  have g9 := hI.2.2.2.2.2 b.toNat (by omega)
  have g6 := hI.2.2.2.2.1
  have g7 := hI.2.1.2.1
  refine AW.aload_n (pc' := 1) dX2_sortOf_0 rfl ?_
  refine AW.getR (pc' := 4) dX2_sortOf_1 ly_35 fX2_29 rfl ?_
  refine AW.iload_n (pc' := 5) dX2_sortOf_4 rfl ?_
  refine AW.invV1 (pc' := 8) dX2_sortOf_5 mlX2_42 mX7_isNew ly_12 rfl (c_X7_isNew (dep := dep - 1) (by first | assumption | omega | (constructor <;> omega) | (simp only [Int.toNat_natCast]; omega) | exact b2_in _) (by first | assumption | omega | (constructor <;> omega) | (simp only [Int.toNat_natCast]; omega) | exact b2_in _) (by first | assumption | omega | (constructor <;> omega) | (simp only [Int.toNat_natCast]; omega) | exact b2_in _)) ?_
  refine AW.ifb_eq (tgt := 28) (pc' := 11) dX2_sortOf_8 (fun c8 => ?_) (fun c8 => ?_)
  · refine AW.aload_n (pc' := 29) dX2_sortOf_28 rfl ?_
    refine AW.getR (pc' := 32) dX2_sortOf_29 ly_35 fX2_29 rfl ?_
    refine AW.iload_n (pc' := 33) dX2_sortOf_32 rfl ?_
    refine AW.invV1 (pc' := 36) dX2_sortOf_33 mlX2_42 mX7_isNew ly_12 rfl (c_X7_isNew (dep := dep - 1) (by first | assumption | omega | (constructor <;> omega) | (simp only [Int.toNat_natCast]; omega) | exact b2_in _) (by first | assumption | omega | (constructor <;> omega) | (simp only [Int.toNat_natCast]; omega) | exact b2_in _) (by first | assumption | omega | (constructor <;> omega) | (simp only [Int.toNat_natCast]; omega) | exact b2_in _)) ?_
    refine AW.ifb_eq (tgt := 43) (pc' := 39) dX2_sortOf_36 (fun c36 => ?_) (fun c36 => ?_)
    · refine AW.iconst (pc' := 44) dX2_sortOf_43 ?_
      refine AW.iret dX2_sortOf_44 ?_ ?_
      · refine congrArg (fun z : Int => (some (vI z) : Option AV)) ?_
        unfold sortF
        (repeat' split) <;> first | rfl | omega
      · rfl
    · refine AW.iconst (pc' := 40) dX2_sortOf_39 ?_
      refine AW.goto (tgt := 44) dX2_sortOf_40 ?_
      refine AW.iret dX2_sortOf_44 ?_ ?_
      · refine congrArg (fun z : Int => (some (vI z) : Option AV)) ?_
        unfold sortF
        (repeat' split) <;> first | rfl | omega
      · rfl
  · refine AW.aload_n (pc' := 12) dX2_sortOf_11 rfl ?_
    refine AW.getR (pc' := 15) dX2_sortOf_12 ly_35 fX2_29 rfl ?_
    refine AW.iload_n (pc' := 16) dX2_sortOf_15 rfl ?_
    refine AW.invV1 (pc' := 19) dX2_sortOf_16 mlX2_42 mX7_isNew ly_12 rfl (c_X7_isNew (dep := dep - 1) (by first | assumption | omega | (constructor <;> omega) | (simp only [Int.toNat_natCast]; omega) | exact b2_in _) (by first | assumption | omega | (constructor <;> omega) | (simp only [Int.toNat_natCast]; omega) | exact b2_in _) (by first | assumption | omega | (constructor <;> omega) | (simp only [Int.toNat_natCast]; omega) | exact b2_in _)) ?_
    refine AW.ifb_eq (tgt := 26) (pc' := 22) dX2_sortOf_19 (fun c19 => ?_) (fun c19 => ?_)
    · refine AW.iconst (pc' := 27) dX2_sortOf_26 ?_
      refine AW.iret dX2_sortOf_27 ?_ ?_
      · refine congrArg (fun z : Int => (some (vI z) : Option AV)) ?_
        unfold sortF
        (repeat' split) <;> first | rfl | omega
      · rfl
    · refine AW.iconst (pc' := 23) dX2_sortOf_22 ?_
      refine AW.goto (tgt := 27) dX2_sortOf_23 ?_
      refine AW.iret dX2_sortOf_27 ?_ ?_
      · refine congrArg (fun z : Int => (some (vI z) : Option AV)) ?_
        unfold sortF
        (repeat' split) <;> first | rfl | omega
      · rfl
set_option maxRecDepth 100000 in
set_option maxHeartbeats 4000000 in
theorem c_X2_gained {K : KT} {dep : Nat} {h : Hp} {a b : Int} (hd : 2 ≤ dep) (hI : IXa h) (q0 : 0 ≤ a ∧ a < h 12 10) (q1 : 0 ≤ b ∧ b < h 12 10) : AM K yX2_gained cX2_gained 5 (some .int) dep [vR 35, vI a, vI b] h (some (vI (gainF (lvl (h 16) (h 11) (h 14)) a.toNat b.toNat))) (h) := by
  refine AM.of (own := RX2) (ls := [some (vR 35), some (vI a), some (vI b), none, none]) rfl (by decide +kernel) (by exact Nat.le_of_ble_eq_true rfl) rfl (fun hO => ?_)
  obtain ⟨e1, e2, e3, e4⟩ := lvl_in hI.2.2.2 hI.2.2.1 (r := a.toNat) (by omega)
  obtain ⟨f1, f2, f3, f4⟩ := lvl_in hI.2.2.2 hI.2.2.1 (r := b.toNat) (by omega)
  obtain ⟨g1, g2, g3, g4⟩ := gain_in e3 e4 f3 f4
  refine AW.aload_n (pc' := 1) dX2_gained_0 rfl ?_
  refine AW.getR (pc' := 4) dX2_gained_1 ly_35 fX2_29 rfl ?_
  refine AW.iload_n (pc' := 5) dX2_gained_4 rfl ?_
  refine AW.invV1 (pc' := 8) dX2_gained_5 mlX2_45 mX7_level ly_12 rfl (c_X7_level (dep := dep - 1) (by first | assumption | omega | (constructor <;> omega) | (simp only [Int.toNat_natCast]; omega) | exact b2_in _) (by first | assumption | omega | (constructor <;> omega) | (simp only [Int.toNat_natCast]; omega) | exact b2_in _) (by first | assumption | omega | (constructor <;> omega) | (simp only [Int.toNat_natCast]; omega) | exact b2_in _)) ?_
  refine AW.i2l (pc' := 9) dX2_gained_8 (by first | assumption | omega | (constructor <;> omega) | (simp only [Int.toNat_natCast]; omega) | exact b2_in _) ?_
  refine AW.lstore3n (pc' := 10) dX2_gained_9 (by decide) rfl ?_
  refine AW.lload_n (pc' := 11) dX2_gained_10 rfl ?_
  refine AW.aload_n (pc' := 12) dX2_gained_11 rfl ?_
  refine AW.getR (pc' := 15) dX2_gained_12 ly_35 fX2_29 rfl ?_
  refine AW.iload_n (pc' := 16) dX2_gained_15 rfl ?_
  refine AW.invV1 (pc' := 19) dX2_gained_16 mlX2_45 mX7_level ly_12 rfl (c_X7_level (dep := dep - 1) (by first | assumption | omega | (constructor <;> omega) | (simp only [Int.toNat_natCast]; omega) | exact b2_in _) (by first | assumption | omega | (constructor <;> omega) | (simp only [Int.toNat_natCast]; omega) | exact b2_in _) (by first | assumption | omega | (constructor <;> omega) | (simp only [Int.toNat_natCast]; omega) | exact b2_in _)) ?_
  refine AW.i2l (pc' := 20) dX2_gained_19 (by first | assumption | omega | (constructor <;> omega) | (simp only [Int.toNat_natCast]; omega) | exact b2_in _) ?_
  refine AW.lsub (pc' := 21) dX2_gained_20 ?_
  refine AW.ldc2 (v := 1000) (pc' := 24) dX2_gained_21 klX2_49 ?_
  refine AW.lmul (pc' := 25) dX2_gained_24 ?_
  refine AW.lload_n (pc' := 26) dX2_gained_25 rfl ?_
  refine AW.invN2 (pc' := 29) dX2_gained_26 (by decide +kernel) mX11_cut (c_X11_cut (dep := dep - 1) (by first | assumption | omega | (constructor <;> omega) | (simp only [Int.toNat_natCast]; omega) | exact b2_in _) (by first | assumption | omega | (constructor <;> omega) | (simp only [Int.toNat_natCast]; omega) | exact b2_in _)) ?_
  refine AW.iret dX2_gained_29 ?_ ?_
  · refine congrArg (fun z : Int => (some (vI z) : Option AV)) ?_
    unfold gainF
    rw [if_neg (by omega)]
  · rfl
set_option maxRecDepth 100000 in
set_option maxHeartbeats 4000000 in
theorem c_X12_gained {K : KT} {dep : Nat} {h : Hp} {a b : Int} (hd : 1 ≤ dep) (hI : IMa h) (q0 : 0 ≤ a ∧ a < h 57 16) (q1 : 0 ≤ b ∧ b < h 57 16) : AM K yX12_gained cX12_gained 3 (some .int) dep [vR 57, vI a, vI b] h (some (vI (gainF (lvl (h 69) (h 65) (h 67)) a.toNat b.toNat))) (h) := by
  refine AM.of (own := RX12) (ls := [some (vR 57), some (vI a), some (vI b)]) rfl (by decide +kernel) (by exact Nat.le_of_ble_eq_true rfl) rfl (fun hO => ?_)
  obtain ⟨e1, e2, e3, e4⟩ := lvl_in hI.2.2.2 hI.2.2.1 (r := a.toNat) (by omega)
  obtain ⟨f1, f2, f3, f4⟩ := lvl_in hI.2.2.2 hI.2.2.1 (r := b.toNat) (by omega)
  obtain ⟨g1, g2, g3, g4⟩ := gain_in e3 e4 f3 f4
  refine AW.aload_n (pc' := 1) dX12_gained_0 rfl ?_
  refine AW.iload_n (pc' := 2) dX12_gained_1 rfl ?_
  refine AW.invV1 (pc' := 5) dX12_gained_2 mlX12_157 mX12_level ly_57 rfl (c_X12_level (dep := dep - 1) (by first | assumption | omega | (constructor <;> omega) | (simp only [Int.toNat_natCast]; omega) | exact b2_in _) (by first | assumption | omega | (constructor <;> omega) | (simp only [Int.toNat_natCast]; omega) | exact b2_in _)) ?_
  refine AW.aload_n (pc' := 6) dX12_gained_5 rfl ?_
  refine AW.iload_n (pc' := 7) dX12_gained_6 rfl ?_
  refine AW.invV1 (pc' := 10) dX12_gained_7 mlX12_157 mX12_level ly_57 rfl (c_X12_level (dep := dep - 1) (by first | assumption | omega | (constructor <;> omega) | (simp only [Int.toNat_natCast]; omega) | exact b2_in _) (by first | assumption | omega | (constructor <;> omega) | (simp only [Int.toNat_natCast]; omega) | exact b2_in _)) ?_
  refine AW.isub (pc' := 11) dX12_gained_10 ?_
  refine AW.sipush (pc' := 14) dX12_gained_11 (by decide) ?_
  refine AW.imul (pc' := 15) dX12_gained_14 ?_
  refine AW.aload_n (pc' := 16) dX12_gained_15 rfl ?_
  refine AW.iload_n (pc' := 17) dX12_gained_16 rfl ?_
  refine AW.invV1 (pc' := 20) dX12_gained_17 mlX12_157 mX12_level ly_57 rfl (c_X12_level (dep := dep - 1) (by first | assumption | omega | (constructor <;> omega) | (simp only [Int.toNat_natCast]; omega) | exact b2_in _) (by first | assumption | omega | (constructor <;> omega) | (simp only [Int.toNat_natCast]; omega) | exact b2_in _)) ?_
  refine AW.idiv (pc' := 21) dX12_gained_20 (by first | assumption | omega | (constructor <;> omega) | (simp only [Int.toNat_natCast]; omega) | exact b2_in _) (by first | assumption | omega | (constructor <;> omega) | (simp only [Int.toNat_natCast]; omega) | exact b2_in _) (by first | assumption | omega | (constructor <;> omega) | (simp only [Int.toNat_natCast]; omega) | exact b2_in _) ?_
  refine AW.iret dX12_gained_21 ?_ ?_
  all_goals first | rfl | exact congrArg (fun z : Int => (some (vI z) : Option AV)) (b2_t (by omega)) | exact congrArg (fun z : Int => (some (vI z) : Option AV)) (b2_f (by omega)) | ((repeat' split) <;> first | rfl | omega)
def sortM (sh gv : Nat → Int) (a b : Int) : Int := if b < 0 ∨ sh a.toNat < 0 ∨ sh b.toNat < 0 then -1 else sortF sh gv a.toNat b.toNat
theorem sortM_in (sh gv : Nat → Int) (a b : Int) : -1 ≤ sortM sh gv a b ∧ sortM sh gv a b ≤ 3 := by unfold sortM; have := sortF_in sh gv a.toNat b.toNat; split <;> omega
set_option maxRecDepth 100000 in
set_option maxHeartbeats 4000000 in
theorem c_X12_sortOf {K : KT} {dep : Nat} {h : Hp} {a b : Int} (hd : 1 ≤ dep) (hI : IMa h) (q0 : 0 ≤ a ∧ a < h 57 16) (q1 : -1 ≤ b ∧ b < h 57 16) : AM K yX12_sortOf cX12_sortOf 3 (some .int) dep [vR 57, vI a, vI b] h (some (vI (sortM (h 70) (h 63) a b))) (h) := by
  refine AM.of (own := RX12) (ls := [some (vR 57), some (vI a), some (vI b)]) rfl (by decide +kernel) (by exact Nat.le_of_ble_eq_true rfl) rfl (fun hO => ?_)
  have g5 := hI.2.2.2.2.2 a.toNat (by omega)
  have g6 := hI.2.2.2.2.1
  have g7 := hI.2.1.2.1
  have g9 : 0 ≤ b → h 70 b.toNat < h 57 14 := fun z => (hI.2.2.2.2.2 b.toNat (by omega)).2.2.2.2.2.2.2.2.2
  refine AW.iload_n (pc' := 1) dX12_sortOf_0 rfl ?_
  refine AW.if_lt (tgt := 22) (pc' := 4) dX12_sortOf_1 (by first | assumption | omega | (constructor <;> omega) | (simp only [Int.toNat_natCast]; omega) | exact b2_in _) (fun c1 => ?_) (fun c1 => ?_)
  · refine AW.iconst (pc' := 23) dX12_sortOf_22 ?_
    refine AW.iret dX12_sortOf_23 ?_ ?_
    · refine congrArg (fun z : Int => (some (vI z) : Option AV)) ?_
      unfold sortM sortF
      (repeat' split) <;> first | rfl | omega
    · rfl
  · refine AW.aload_n (pc' := 5) dX12_sortOf_4 rfl ?_
    refine AW.getR (pc' := 8) dX12_sortOf_5 ly_57 fX12_46 rfl ?_
    refine AW.iload_n (pc' := 9) dX12_sortOf_8 rfl ?_
    first | refine AW.ialdN (pc' := 10) dX12_sortOf_9 ly_70 (by first | assumption | omega | (constructor <;> omega) | (simp only [Int.toNat_natCast]; omega) | exact b2_in _) (by decide) (fun r9 => ?_) | refine AW.iald (pc' := 10) dX12_sortOf_9 ly_70 (by first | assumption | omega | (constructor <;> omega) | (simp only [Int.toNat_natCast]; omega) | exact b2_in _) (by first | assumption | omega | (constructor <;> omega) | (simp only [Int.toNat_natCast]; omega) | exact b2_in _) (by decide) (fun r9 => ?_)
    refine AW.if_lt (tgt := 22) (pc' := 13) dX12_sortOf_10 (by first | assumption | omega | (constructor <;> omega) | (simp only [Int.toNat_natCast]; omega) | exact b2_in _) (fun c10 => ?_) (fun c10 => ?_)
    · refine AW.iconst (pc' := 23) dX12_sortOf_22 ?_
      refine AW.iret dX12_sortOf_23 ?_ ?_
      · refine congrArg (fun z : Int => (some (vI z) : Option AV)) ?_
        unfold sortM sortF
        (repeat' split) <;> first | rfl | omega
      · rfl
    · refine AW.aload_n (pc' := 14) dX12_sortOf_13 rfl ?_
      refine AW.getR (pc' := 17) dX12_sortOf_14 ly_57 fX12_46 rfl ?_
      refine AW.iload_n (pc' := 18) dX12_sortOf_17 rfl ?_
      first | refine AW.ialdN (pc' := 19) dX12_sortOf_18 ly_70 (by first | assumption | omega | (constructor <;> omega) | (simp only [Int.toNat_natCast]; omega) | exact b2_in _) (by decide) (fun r18 => ?_) | refine AW.iald (pc' := 19) dX12_sortOf_18 ly_70 (by first | assumption | omega | (constructor <;> omega) | (simp only [Int.toNat_natCast]; omega) | exact b2_in _) (by first | assumption | omega | (constructor <;> omega) | (simp only [Int.toNat_natCast]; omega) | exact b2_in _) (by decide) (fun r18 => ?_)
      refine AW.if_ge (tgt := 24) (pc' := 22) dX12_sortOf_19 (by first | assumption | omega | (constructor <;> omega) | (simp only [Int.toNat_natCast]; omega) | exact b2_in _) (fun c19 => ?_) (fun c19 => ?_)
      · refine AW.aload_n (pc' := 25) dX12_sortOf_24 rfl ?_
        refine AW.iload_n (pc' := 26) dX12_sortOf_25 rfl ?_
        refine AW.invV1 (pc' := 29) dX12_sortOf_26 mlX12_256 mX12_isNew ly_57 rfl (c_X12_isNew (dep := dep - 1) (by first | assumption | omega | (constructor <;> omega) | (simp only [Int.toNat_natCast]; omega) | exact b2_in _) (by first | assumption | omega | (constructor <;> omega) | (simp only [Int.toNat_natCast]; omega) | exact b2_in _)) ?_
        refine AW.ifb_eq (tgt := 48) (pc' := 32) dX12_sortOf_29 (fun c29 => ?_) (fun c29 => ?_)
        · refine AW.aload_n (pc' := 49) dX12_sortOf_48 rfl ?_
          refine AW.iload_n (pc' := 50) dX12_sortOf_49 rfl ?_
          refine AW.invV1 (pc' := 53) dX12_sortOf_50 mlX12_256 mX12_isNew ly_57 rfl (c_X12_isNew (dep := dep - 1) (by first | assumption | omega | (constructor <;> omega) | (simp only [Int.toNat_natCast]; omega) | exact b2_in _) (by first | assumption | omega | (constructor <;> omega) | (simp only [Int.toNat_natCast]; omega) | exact b2_in _)) ?_
          refine AW.ifb_eq (tgt := 60) (pc' := 56) dX12_sortOf_53 (fun c53 => ?_) (fun c53 => ?_)
          · refine AW.iconst (pc' := 61) dX12_sortOf_60 ?_
            refine AW.iret dX12_sortOf_61 ?_ ?_
            · refine congrArg (fun z : Int => (some (vI z) : Option AV)) ?_
              unfold sortM sortF
              (repeat' split) <;> first | rfl | omega
            · rfl
          · refine AW.iconst (pc' := 57) dX12_sortOf_56 ?_
            refine AW.goto (tgt := 61) dX12_sortOf_57 ?_
            refine AW.iret dX12_sortOf_61 ?_ ?_
            · refine congrArg (fun z : Int => (some (vI z) : Option AV)) ?_
              unfold sortM sortF
              (repeat' split) <;> first | rfl | omega
            · rfl
        · refine AW.aload_n (pc' := 33) dX12_sortOf_32 rfl ?_
          refine AW.iload_n (pc' := 34) dX12_sortOf_33 rfl ?_
          refine AW.invV1 (pc' := 37) dX12_sortOf_34 mlX12_256 mX12_isNew ly_57 rfl (c_X12_isNew (dep := dep - 1) (by first | assumption | omega | (constructor <;> omega) | (simp only [Int.toNat_natCast]; omega) | exact b2_in _) (by first | assumption | omega | (constructor <;> omega) | (simp only [Int.toNat_natCast]; omega) | exact b2_in _)) ?_
          refine AW.ifb_eq (tgt := 44) (pc' := 40) dX12_sortOf_37 (fun c37 => ?_) (fun c37 => ?_)
          · refine AW.iconst (pc' := 45) dX12_sortOf_44 ?_
            refine AW.goto (tgt := 61) dX12_sortOf_45 ?_
            refine AW.iret dX12_sortOf_61 ?_ ?_
            · refine congrArg (fun z : Int => (some (vI z) : Option AV)) ?_
              unfold sortM sortF
              (repeat' split) <;> first | rfl | omega
            · rfl
          · refine AW.iconst (pc' := 41) dX12_sortOf_40 ?_
            refine AW.goto (tgt := 61) dX12_sortOf_41 ?_
            refine AW.iret dX12_sortOf_61 ?_ ?_
            · refine congrArg (fun z : Int => (some (vI z) : Option AV)) ?_
              unfold sortM sortF
              (repeat' split) <;> first | rfl | omega
            · rfl
      · refine AW.iconst (pc' := 23) dX12_sortOf_22 ?_
        refine AW.iret dX12_sortOf_23 ?_ ?_
        · refine congrArg (fun z : Int => (some (vI z) : Option AV)) ?_
          unfold sortM sortF
          (repeat' split) <;> first | rfl | omega
        · rfl
set_option maxRecDepth 100000 in
set_option maxHeartbeats 4000000 in
theorem c_X12_besideOf {K : KT} {dep : Nat} {h : Hp} {a b c d : Int}  (q0 : 0 < b ∧ b ≤ 1000) (q1 : 0 < d ∧ d ≤ 1000) (q2 : 5 * b ≤ a ∧ a ≤ 59998 * b) (q3 : 5 * d ≤ c ∧ c ≤ 59998 * d) : AM K yX12_besideOf cX12_besideOf 5 (some .int) dep [vI a, vI b, vI c, vI d] h (some (vI (besF a b c d))) (h) := by
  refine AM.of (own := RX12) (ls := [some (vI a), some (vI b), some (vI c), some (vI d), none]) rfl (by decide +kernel) (by exact Nat.le_of_ble_eq_true rfl) rfl (fun hO => ?_)
  obtain ⟨a1, a2⟩ := mean_in q0.1 q2.1 q2.2
  obtain ⟨b1, b2⟩ := mean_in q1.1 q3.1 q3.2
  obtain ⟨g1, g2, g3, g4⟩ := gain_in a1 a2 b1 b2
  refine AW.iload_n (pc' := 1) dX12_besideOf_0 rfl ?_
  refine AW.iload_n (pc' := 2) dX12_besideOf_1 rfl ?_
  refine AW.idiv (pc' := 3) dX12_besideOf_2 (by first | assumption | omega | (constructor <;> omega) | (simp only [Int.toNat_natCast]; omega) | exact b2_in _) (by first | assumption | omega | (constructor <;> omega) | (simp only [Int.toNat_natCast]; omega) | exact b2_in _) (by first | assumption | omega | (constructor <;> omega) | (simp only [Int.toNat_natCast]; omega) | exact b2_in _) ?_
  refine AW.istore4 (pc' := 5) dX12_besideOf_3 (by decide) rfl ?_
  refine AW.iload (pc' := 7) dX12_besideOf_5 rfl ?_
  refine AW.iload_n (pc' := 8) dX12_besideOf_7 rfl ?_
  refine AW.iload_n (pc' := 9) dX12_besideOf_8 rfl ?_
  refine AW.idiv (pc' := 10) dX12_besideOf_9 (by first | assumption | omega | (constructor <;> omega) | (simp only [Int.toNat_natCast]; omega) | exact b2_in _) (by first | assumption | omega | (constructor <;> omega) | (simp only [Int.toNat_natCast]; omega) | exact b2_in _) (by first | assumption | omega | (constructor <;> omega) | (simp only [Int.toNat_natCast]; omega) | exact b2_in _) ?_
  refine AW.isub (pc' := 11) dX12_besideOf_10 ?_
  refine AW.sipush (pc' := 14) dX12_besideOf_11 (by decide) ?_
  refine AW.imul (pc' := 15) dX12_besideOf_14 ?_
  refine AW.iload (pc' := 17) dX12_besideOf_15 rfl ?_
  refine AW.idiv (pc' := 18) dX12_besideOf_17 (by first | assumption | omega | (constructor <;> omega) | (simp only [Int.toNat_natCast]; omega) | exact b2_in _) (by first | assumption | omega | (constructor <;> omega) | (simp only [Int.toNat_natCast]; omega) | exact b2_in _) (by first | assumption | omega | (constructor <;> omega) | (simp only [Int.toNat_natCast]; omega) | exact b2_in _) ?_
  refine AW.iret dX12_besideOf_18 ?_ ?_
  all_goals first | rfl | exact congrArg (fun z : Int => (some (vI z) : Option AV)) (b2_t (by omega)) | exact congrArg (fun z : Int => (some (vI z) : Option AV)) (b2_f (by omega)) | ((repeat' split) <;> first | rfl | omega)
set_option maxRecDepth 100000 in
set_option maxHeartbeats 4000000 in
theorem c_X2_further {K : KT} {dep : Nat} {h : Hp} {a b : Int} {P : Prop} {dP : Decidable P} (hd : 1 ≤ dep) (q0 : inI a) (q1 : inI b) : AM K yX2_further cX2_further 3 (some .int) dep [vI a, vI b, vI (b2 P)] h (some (vI (if a = -2000000000 then b else if b = -2000000000 then a else if P then (if a < b then b else a) else (if b < a then b else a)))) (h) := by
  refine AM.of (own := RX2) (ls := [some (vI a), some (vI b), some (vI (b2 P))]) rfl (by decide +kernel) (by exact Nat.le_of_ble_eq_true rfl) rfl (fun hO => ?_)
  refine AW.iload_n (pc' := 1) dX2_further_0 rfl ?_
  refine AW.ldc (v := -2000000000) (pc' := 3) dX2_further_1 kX2_73 ?_
  refine AW.icmp_eq (tgt := 12) (pc' := 6) dX2_further_3 (by first | assumption | omega | (constructor <;> omega) | (simp only [Int.toNat_natCast]; omega) | exact b2_in _) (by first | assumption | omega | (constructor <;> omega) | (simp only [Int.toNat_natCast]; omega) | exact b2_in _) (fun c3 => ?_) (fun c3 => ?_)
  · refine AW.iload_n (pc' := 13) dX2_further_12 rfl ?_
    refine AW.ldc (v := -2000000000) (pc' := 15) dX2_further_13 kX2_73 ?_
    refine AW.icmp_ne (tgt := 22) (pc' := 18) dX2_further_15 (by first | assumption | omega | (constructor <;> omega) | (simp only [Int.toNat_natCast]; omega) | exact b2_in _) (by first | assumption | omega | (constructor <;> omega) | (simp only [Int.toNat_natCast]; omega) | exact b2_in _) (fun c15 => ?_) (fun c15 => ?_)
    · refine AW.iload_n (pc' := 23) dX2_further_22 rfl ?_
      refine AW.iret dX2_further_23 ?_ ?_
      · refine congrArg (fun z : Int => (some (vI z) : Option AV)) ?_
        (repeat' split) <;> first | rfl | omega | contradiction
      · rfl
    · refine AW.iload_n (pc' := 19) dX2_further_18 rfl ?_
      refine AW.goto (tgt := 23) dX2_further_19 ?_
      refine AW.iret dX2_further_23 ?_ ?_
      · refine congrArg (fun z : Int => (some (vI z) : Option AV)) ?_
        (repeat' split) <;> first | rfl | omega | contradiction
      · rfl
  · refine AW.iload_n (pc' := 7) dX2_further_6 rfl ?_
    refine AW.ldc (v := -2000000000) (pc' := 9) dX2_further_7 kX2_73 ?_
    refine AW.icmp_ne (tgt := 24) (pc' := 12) dX2_further_9 (by first | assumption | omega | (constructor <;> omega) | (simp only [Int.toNat_natCast]; omega) | exact b2_in _) (by first | assumption | omega | (constructor <;> omega) | (simp only [Int.toNat_natCast]; omega) | exact b2_in _) (fun c9 => ?_) (fun c9 => ?_)
    · refine AW.iload_n (pc' := 25) dX2_further_24 rfl ?_
      refine AW.ifb_eq (tgt := 36) (pc' := 28) dX2_further_25 (fun c25 => ?_) (fun c25 => ?_)
      · refine AW.iload_n (pc' := 37) dX2_further_36 rfl ?_
        refine AW.iload_n (pc' := 38) dX2_further_37 rfl ?_
        refine AW.mmin (pc' := 41) dX2_further_38 mlX2_125 (by first | assumption | omega | (constructor <;> omega) | (simp only [Int.toNat_natCast]; omega) | exact b2_in _) (by first | assumption | omega | (constructor <;> omega) | (simp only [Int.toNat_natCast]; omega) | exact b2_in _) ?_
        refine AW.iret dX2_further_41 ?_ ?_
        · refine congrArg (fun z : Int => (some (vI z) : Option AV)) ?_
          (repeat' split) <;> first | rfl | omega | contradiction
        · rfl
      · refine AW.iload_n (pc' := 29) dX2_further_28 rfl ?_
        refine AW.iload_n (pc' := 30) dX2_further_29 rfl ?_
        refine AW.mmax (pc' := 33) dX2_further_30 mlX2_120 (by first | assumption | omega | (constructor <;> omega) | (simp only [Int.toNat_natCast]; omega) | exact b2_in _) (by first | assumption | omega | (constructor <;> omega) | (simp only [Int.toNat_natCast]; omega) | exact b2_in _) ?_
        refine AW.goto (tgt := 41) dX2_further_33 ?_
        refine AW.iret dX2_further_41 ?_ ?_
        · refine congrArg (fun z : Int => (some (vI z) : Option AV)) ?_
          (repeat' split) <;> first | rfl | omega | contradiction
        · rfl
    · refine AW.iload_n (pc' := 13) dX2_further_12 rfl ?_
      refine AW.ldc (v := -2000000000) (pc' := 15) dX2_further_13 kX2_73 ?_
      refine AW.icmp_ne (tgt := 22) (pc' := 18) dX2_further_15 (by first | assumption | omega | (constructor <;> omega) | (simp only [Int.toNat_natCast]; omega) | exact b2_in _) (by first | assumption | omega | (constructor <;> omega) | (simp only [Int.toNat_natCast]; omega) | exact b2_in _) (fun c15 => ?_) (fun c15 => ?_)
      · refine AW.iload_n (pc' := 23) dX2_further_22 rfl ?_
        refine AW.iret dX2_further_23 ?_ ?_
        · refine congrArg (fun z : Int => (some (vI z) : Option AV)) ?_
          (repeat' split) <;> first | rfl | omega | contradiction
        · rfl
      · refine AW.iload_n (pc' := 19) dX2_further_18 rfl ?_
        refine AW.goto (tgt := 23) dX2_further_19 ?_
        refine AW.iret dX2_further_23 ?_ ?_
        · refine congrArg (fun z : Int => (some (vI z) : Option AV)) ?_
          (repeat' split) <;> first | rfl | omega | contradiction
        · rfl
set_option maxRecDepth 100000 in
set_option maxHeartbeats 4000000 in
theorem c_X12_least {K : KT} {dep : Nat} {h : Hp} {a b : Int}  (q0 : inI a) (q1 : inI b) : AM K yX12_least cX12_least 2 (some .int) dep [vI a, vI b] h (some (vI (if a = -2000000000 then b else if b = -2000000000 then a else if a < b then a else b))) (h) := by
  refine AM.of (own := RX12) (ls := [some (vI a), some (vI b)]) rfl (by decide +kernel) (by exact Nat.le_of_ble_eq_true rfl) rfl (fun hO => ?_)
  refine AW.iload_n (pc' := 1) dX12_least_0 rfl ?_
  refine AW.ldc (v := -2000000000) (pc' := 3) dX12_least_1 kX12_156 ?_
  refine AW.icmp_ne (tgt := 10) (pc' := 6) dX12_least_3 (by first | assumption | omega | (constructor <;> omega) | (simp only [Int.toNat_natCast]; omega) | exact b2_in _) (by first | assumption | omega | (constructor <;> omega) | (simp only [Int.toNat_natCast]; omega) | exact b2_in _) (fun c3 => ?_) (fun c3 => ?_)
  · refine AW.iload_n (pc' := 11) dX12_least_10 rfl ?_
    refine AW.ldc (v := -2000000000) (pc' := 13) dX12_least_11 kX12_156 ?_
    refine AW.icmp_ne (tgt := 20) (pc' := 16) dX12_least_13 (by first | assumption | omega | (constructor <;> omega) | (simp only [Int.toNat_natCast]; omega) | exact b2_in _) (by first | assumption | omega | (constructor <;> omega) | (simp only [Int.toNat_natCast]; omega) | exact b2_in _) (fun c13 => ?_) (fun c13 => ?_)
    · refine AW.iload_n (pc' := 21) dX12_least_20 rfl ?_
      refine AW.iload_n (pc' := 22) dX12_least_21 rfl ?_
      refine AW.icmp_ge (tgt := 29) (pc' := 25) dX12_least_22 (by first | assumption | omega | (constructor <;> omega) | (simp only [Int.toNat_natCast]; omega) | exact b2_in _) (by first | assumption | omega | (constructor <;> omega) | (simp only [Int.toNat_natCast]; omega) | exact b2_in _) (fun c22 => ?_) (fun c22 => ?_)
      · refine AW.iload_n (pc' := 30) dX12_least_29 rfl ?_
        refine AW.iret dX12_least_30 ?_ ?_
        all_goals first | rfl | exact congrArg (fun z : Int => (some (vI z) : Option AV)) (b2_t (by omega)) | exact congrArg (fun z : Int => (some (vI z) : Option AV)) (b2_f (by omega)) | ((repeat' split) <;> first | rfl | omega)
      · refine AW.iload_n (pc' := 26) dX12_least_25 rfl ?_
        refine AW.goto (tgt := 30) dX12_least_26 ?_
        refine AW.iret dX12_least_30 ?_ ?_
        all_goals first | rfl | exact congrArg (fun z : Int => (some (vI z) : Option AV)) (b2_t (by omega)) | exact congrArg (fun z : Int => (some (vI z) : Option AV)) (b2_f (by omega)) | ((repeat' split) <;> first | rfl | omega)
    · refine AW.iload_n (pc' := 17) dX12_least_16 rfl ?_
      refine AW.goto (tgt := 30) dX12_least_17 ?_
      refine AW.iret dX12_least_30 ?_ ?_
      all_goals first | rfl | exact congrArg (fun z : Int => (some (vI z) : Option AV)) (b2_t (by omega)) | exact congrArg (fun z : Int => (some (vI z) : Option AV)) (b2_f (by omega)) | ((repeat' split) <;> first | rfl | omega)
  · refine AW.iload_n (pc' := 7) dX12_least_6 rfl ?_
    refine AW.goto (tgt := 30) dX12_least_7 ?_
    refine AW.iret dX12_least_30 ?_ ?_
    all_goals first | rfl | exact congrArg (fun z : Int => (some (vI z) : Option AV)) (b2_t (by omega)) | exact congrArg (fun z : Int => (some (vI z) : Option AV)) (b2_f (by omega)) | ((repeat' split) <;> first | rfl | omega)
set_option maxRecDepth 100000 in
set_option maxHeartbeats 4000000 in
theorem c_X12_greatest {K : KT} {dep : Nat} {h : Hp} {a b : Int}  (q0 : inI a) (q1 : inI b) : AM K yX12_greatest cX12_greatest 2 (some .int) dep [vI a, vI b] h (some (vI (if a = -2000000000 then b else if b = -2000000000 then a else if b < a then a else b))) (h) := by
  refine AM.of (own := RX12) (ls := [some (vI a), some (vI b)]) rfl (by decide +kernel) (by exact Nat.le_of_ble_eq_true rfl) rfl (fun hO => ?_)
  refine AW.iload_n (pc' := 1) dX12_greatest_0 rfl ?_
  refine AW.ldc (v := -2000000000) (pc' := 3) dX12_greatest_1 kX12_156 ?_
  refine AW.icmp_ne (tgt := 10) (pc' := 6) dX12_greatest_3 (by first | assumption | omega | (constructor <;> omega) | (simp only [Int.toNat_natCast]; omega) | exact b2_in _) (by first | assumption | omega | (constructor <;> omega) | (simp only [Int.toNat_natCast]; omega) | exact b2_in _) (fun c3 => ?_) (fun c3 => ?_)
  · refine AW.iload_n (pc' := 11) dX12_greatest_10 rfl ?_
    refine AW.ldc (v := -2000000000) (pc' := 13) dX12_greatest_11 kX12_156 ?_
    refine AW.icmp_ne (tgt := 20) (pc' := 16) dX12_greatest_13 (by first | assumption | omega | (constructor <;> omega) | (simp only [Int.toNat_natCast]; omega) | exact b2_in _) (by first | assumption | omega | (constructor <;> omega) | (simp only [Int.toNat_natCast]; omega) | exact b2_in _) (fun c13 => ?_) (fun c13 => ?_)
    · refine AW.iload_n (pc' := 21) dX12_greatest_20 rfl ?_
      refine AW.iload_n (pc' := 22) dX12_greatest_21 rfl ?_
      refine AW.icmp_le (tgt := 29) (pc' := 25) dX12_greatest_22 (by first | assumption | omega | (constructor <;> omega) | (simp only [Int.toNat_natCast]; omega) | exact b2_in _) (by first | assumption | omega | (constructor <;> omega) | (simp only [Int.toNat_natCast]; omega) | exact b2_in _) (fun c22 => ?_) (fun c22 => ?_)
      · refine AW.iload_n (pc' := 30) dX12_greatest_29 rfl ?_
        refine AW.iret dX12_greatest_30 ?_ ?_
        all_goals first | rfl | exact congrArg (fun z : Int => (some (vI z) : Option AV)) (b2_t (by omega)) | exact congrArg (fun z : Int => (some (vI z) : Option AV)) (b2_f (by omega)) | ((repeat' split) <;> first | rfl | omega)
      · refine AW.iload_n (pc' := 26) dX12_greatest_25 rfl ?_
        refine AW.goto (tgt := 30) dX12_greatest_26 ?_
        refine AW.iret dX12_greatest_30 ?_ ?_
        all_goals first | rfl | exact congrArg (fun z : Int => (some (vI z) : Option AV)) (b2_t (by omega)) | exact congrArg (fun z : Int => (some (vI z) : Option AV)) (b2_f (by omega)) | ((repeat' split) <;> first | rfl | omega)
    · refine AW.iload_n (pc' := 17) dX12_greatest_16 rfl ?_
      refine AW.goto (tgt := 30) dX12_greatest_17 ?_
      refine AW.iret dX12_greatest_30 ?_ ?_
      all_goals first | rfl | exact congrArg (fun z : Int => (some (vI z) : Option AV)) (b2_t (by omega)) | exact congrArg (fun z : Int => (some (vI z) : Option AV)) (b2_f (by omega)) | ((repeat' split) <;> first | rfl | omega)
  · refine AW.iload_n (pc' := 7) dX12_greatest_6 rfl ?_
    refine AW.goto (tgt := 30) dX12_greatest_7 ?_
    refine AW.iret dX12_greatest_30 ?_ ?_
    all_goals first | rfl | exact congrArg (fun z : Int => (some (vI z) : Option AV)) (b2_t (by omega)) | exact congrArg (fun z : Int => (some (vI z) : Option AV)) (b2_f (by omega)) | ((repeat' split) <;> first | rfl | omega)
