/-! the class: gains of a runner, shares, led, pairs, means -/
abbrev lvX (h : Hp) : Nat → Int := lvl (h 16) (h 11) (h 14)
abbrev rsX (h : Hp) (a : Int) : Nat → T4 → T4 := rgS (h 13) a (h 17) (h 8) (lvX h)
abbrev rgX (h : Hp) (a : Int) : T4 := rgF (h 12 10) (h 13) a (h 17) (h 8) (lvX h)
theorem rgX_in {h : Hp} (hI : IXa h) (a : Int) : TI (rgX h a) 120 :=
  TI.up (rgL_in (ru := h 13) (a := a) (sh := h 17) (gv := h 8) (lv := lvX h) (m := h 12 10) (fun k hk => by have := lvl_in hI.2.2.2 hI.2.2.1 hk; exact ⟨this.2.2.1, this.2.2.2⟩) (h 12 10).toNat 0 (0, 0, 0, 0) (by have := hI.2.2.2.1; omega) (TI0 (by decide))) hI.2.2.2.2.1
abbrev gfX (h : Hp) (k : Nat) : Int := tgain (rgX h k)
theorem rgX_ex {ks : List Nat} {h h1 : Hp} (e : EX ks h h1) (hk : ks.all (fun k => decide (18 ≤ k)) = true) (a : Int) : rgX h1 a = rgX h a := by
  have q : ∀ k : Nat, k < 18 → h1 k = h k := fun k z => e k (by
    cases z2 : ks.contains k with
    | false => rfl
    | true =>
      have := List.all_eq_true.mp hk k (List.contains_iff_mem.mp z2)
      simp at this
      omega)
  simp only [rgX, lvX]
  rw [q 8 (by decide), q 11 (by decide), q 12 (by decide), q 13 (by decide), q 14 (by decide), q 16 (by decide), q 17 (by decide)]
set_option maxRecDepth 100000 in
set_option maxHeartbeats 4000000 in
theorem lp_X2_ofRunner {K : KT} {X : XT} {dep : Nat} {h : Hp} {a : Int} (hI : IXa h) (qa : inI a) (hd : 4 ≤ dep) : ∀ (n k : Nat) (t : T4) (h1 : Hp), (k : Int) + n = h 12 10 → EX [39] h h1 → tal h1 = t → TI t k → (∀ h2 : Hp, EX [39] h h2 → tal h2 = lp (rsX h a) n k t → AW K X RX2 cX2_ofRunner 3 (some .int) dep 44 [some (vR 35), some (vI (a)), none] [] h2) → AW K X RX2 cX2_ofRunner 3 (some .int) dep 9 [some (vR 35), some (vI (a)), some (vI ((k : Int)))] [] h1 := by
  have g6 := hI.2.2.2.1
  have g7 := hI.2.2.2.2.1
  have g8 := hI.2.1.2.1
  intro n
  induction n with
  | zero =>
    intro k t h1 hk e1 t1 i0 kk
    have w1 := e1 1 rfl
    have w4 := e1 4 rfl
    have w5 := e1 5 rfl
    have w6 := e1 6 rfl
    have w7 := e1 7 rfl
    have w8 := e1 8 rfl
    have w10 := e1 10 rfl
    have w11 := e1 11 rfl
    have w12 := e1 12 rfl
    have w13 := e1 13 rfl
    have w14 := e1 14 rfl
    have w15 := e1 15 rfl
    have w16 := e1 16 rfl
    have w17 := e1 17 rfl
    have w18 := e1 18 rfl
    have w19 := e1 19 rfl
    have hI_w := hI.ex e1 rfl
    refine AW.iload_n (pc' := 10) dX2_ofRunner_9 rfl ?_
    refine AW.aload_n (pc' := 11) dX2_ofRunner_10 rfl ?_
    refine AW.getR (pc' := 14) dX2_ofRunner_11 ly_35 fX2_29 rfl ?_
    refine AW.getI (pc' := 17) dX2_ofRunner_14 ly_12 fX2_55 rfl (fun r14 => ?_)
    try simp only [w1, w4, w5, w6, w7, w8, w10, w11, w12, w13, w14, w15, w16, w17, w18, w19] at r14 ⊢
    refine AW.icmp_ge (tgt := 44) (pc' := 20) dX2_ofRunner_17 (by first | assumption | omega | (constructor <;> omega) | (simp only [Int.toNat_natCast]; omega) | exact b2_in _) (by first | assumption | omega | (constructor <;> omega) | (simp only [Int.toNat_natCast]; omega) | exact b2_in _) (fun c17 => ?_) (fun c17 => ?_)
    · exact AW.weak (kk h1 e1 t1) (by (repeat' first | exact LSub.e | refine LSub.n ?_ | refine LSub.c ?_ ?_) <;> first | rfl | exact congrArg Sum.inl (by first | rfl | omega | omega))
    · omega
  | succ n ih =>
    intro k t h1 hk e1 t1 i0 kk
    have w1 := e1 1 rfl
    have w4 := e1 4 rfl
    have w5 := e1 5 rfl
    have w6 := e1 6 rfl
    have w7 := e1 7 rfl
    have w8 := e1 8 rfl
    have w10 := e1 10 rfl
    have w11 := e1 11 rfl
    have w12 := e1 12 rfl
    have w13 := e1 13 rfl
    have w14 := e1 14 rfl
    have w15 := e1 15 rfl
    have w16 := e1 16 rfl
    have w17 := e1 17 rfl
    have w18 := e1 18 rfl
    have w19 := e1 19 rfl
    have hI_w := hI.ex e1 rfl
    have g12 : h1 12 10 = h 12 10 := by rw [w12]
    have hkr : (k : Int) < h 12 10 := by omega
    have lv1 := lvl_in hI.2.2.2 hI.2.2.1 hkr
    have g5 := hI.2.2.2.2.2 k hkr
    have i1 : TI (rsX h a k t) ((k + 1 : Nat) : Int) := rgS_in i0 lv1.2.2.1 lv1.2.2.2
    have q1 : TI (tal h1) 900 := by rw [t1]; exact TI.up i0 (by omega)
    refine AW.iload_n (pc' := 10) dX2_ofRunner_9 rfl ?_
    refine AW.aload_n (pc' := 11) dX2_ofRunner_10 rfl ?_
    refine AW.getR (pc' := 14) dX2_ofRunner_11 ly_35 fX2_29 rfl ?_
    refine AW.getI (pc' := 17) dX2_ofRunner_14 ly_12 fX2_55 rfl (fun r14 => ?_)
    try simp only [w1, w4, w5, w6, w7, w8, w10, w11, w12, w13, w14, w15, w16, w17, w18, w19] at r14 ⊢
    refine AW.icmp_ge (tgt := 44) (pc' := 20) dX2_ofRunner_17 (by first | assumption | omega | (constructor <;> omega) | (simp only [Int.toNat_natCast]; omega) | exact b2_in _) (by first | assumption | omega | (constructor <;> omega) | (simp only [Int.toNat_natCast]; omega) | exact b2_in _) (fun c17 => ?_) (fun c17 => ?_)
    · omega
    · refine AW.aload_n (pc' := 21) dX2_ofRunner_20 rfl ?_
      refine AW.getR (pc' := 24) dX2_ofRunner_21 ly_35 fX2_29 rfl ?_
      refine AW.getR (pc' := 27) dX2_ofRunner_24 ly_12 fX2_33 rfl ?_
      refine AW.iload_n (pc' := 28) dX2_ofRunner_27 rfl ?_
      first | refine AW.ialdN (pc' := 29) dX2_ofRunner_28 ly_13 (by first | assumption | omega | (constructor <;> omega) | (simp only [Int.toNat_natCast]; omega) | exact b2_in _) (by decide) (fun r28 => ?_) | refine AW.iald (pc' := 29) dX2_ofRunner_28 ly_13 (by first | assumption | omega | (constructor <;> omega) | (simp only [Int.toNat_natCast]; omega) | exact b2_in _) (by first | assumption | omega | (constructor <;> omega) | (simp only [Int.toNat_natCast]; omega) | exact b2_in _) (by decide) (fun r28 => ?_)
      try simp only [w1, w4, w5, w6, w7, w8, w10, w11, w12, w13, w14, w15, w16, w17, w18, w19] at r28 ⊢
      refine AW.iload_n (pc' := 30) dX2_ofRunner_29 rfl ?_
      refine AW.icmp_ne (tgt := 38) (pc' := 33) dX2_ofRunner_30 (by first | assumption | omega | (constructor <;> omega) | (simp only [Int.toNat_natCast]; omega) | exact b2_in _) (by first | assumption | omega | (constructor <;> omega) | (simp only [Int.toNat_natCast]; omega) | exact b2_in _) (fun c30 => ?_) (fun c30 => ?_)
      · refine AW.iinc2 (pc' := 41) dX2_ofRunner_38 (by decide) rfl ?_
        refine AW.goto (tgt := 9) dX2_ofRunner_41 ?_
        have z : rsX h a k t = t := by simp only [rsX]; unfold rgS; rw [if_neg (by omega)]
        exact AW.weak (ih (k + 1) (rsX h a k t) _ (by omega) e1 (by rw [z, t1]) i1 kk) (by (repeat' first | exact LSub.e | refine LSub.n ?_ | refine LSub.c ?_ ?_) <;> first | rfl | exact congrArg Sum.inl (by first | rfl | omega | omega))
      · refine AW.aload_n (pc' := 34) dX2_ofRunner_33 rfl ?_
        refine AW.iload_n (pc' := 35) dX2_ofRunner_34 rfl ?_
        refine AW.invQ1v (pc' := 38) dX2_ofRunner_35 mlX2_86 mX2_addSeen ly_35 rfl (c_X2_addSeen (dep := dep - 1) (by first | assumption | omega | (constructor <;> omega) | (simp only [Int.toNat_natCast]; omega) | exact b2_in _) (by first | assumption | omega | (constructor <;> omega) | (simp only [Int.toNat_natCast]; omega) | exact b2_in _) (by first | assumption | omega | (constructor <;> omega) | (simp only [Int.toNat_natCast]; omega) | exact b2_in _) (by first | assumption | omega | (constructor <;> omega) | (simp only [Int.toNat_natCast]; omega) | exact b2_in _)) (fun h35 s35 => ?_)
        try simp only [Int.toNat_natCast, w1, w4, w5, w6, w7, w8, w10, w11, w12, w13, w14, w15, w16, w17, w18, w19]
        obtain ⟨e2, t2⟩ := s35
        simp only [Int.toNat_natCast, w1, w4, w5, w6, w7, w8, w10, w11, w12, w13, w14, w15, w16, w17, w18, w19] at t2
        refine AW.iinc2 (pc' := 41) dX2_ofRunner_38 (by decide) rfl ?_
        refine AW.goto (tgt := 9) dX2_ofRunner_41 ?_
        have z : rsX h a k t = seenT (h 17) (h 8) (lvX h) k t := by simp only [rsX]; unfold rgS; rw [if_pos (by omega)]
        exact AW.weak (ih (k + 1) (rsX h a k t) _ (by omega) (e1.tr e2) (by rw [z, t2, t1]) i1 kk) (by (repeat' first | exact LSub.e | refine LSub.n ?_ | refine LSub.c ?_ ?_) <;> first | rfl | exact congrArg Sum.inl (by first | rfl | omega | omega))
set_option maxRecDepth 100000 in
set_option maxHeartbeats 4000000 in
theorem c_X2_ofRunner {K : KT} {dep : Nat} {h : Hp} {a : Int} (hd : 4 ≤ dep) (hI : IXa h) (q1 : inI a) : AMp K yX2_ofRunner cX2_ofRunner 3 (some .int) dep [vR 35, vI a] h (some (vI (tgain (rgX h a)))) (fun x => EX [39] h x) := by
  refine AM.of (own := RX2) (ls := [some (vR 35), some (vI a), none]) rfl (by decide +kernel) (by exact Nat.le_of_ble_eq_true rfl) rfl (fun hO => ?_)
  have g6 := hI.2.2.2.1
  have g7 := hI.2.2.2.2.1
  have g8 := hI.2.1.2.1
  refine AW.aload_n (pc' := 1) dX2_ofRunner_0 rfl ?_
  refine AW.getR (pc' := 4) dX2_ofRunner_1 ly_35 fX2_12 rfl ?_
  refine AW.invV0v (pc' := 7) dX2_ofRunner_4 mlX2_80 mX10_clear ly_39 rfl (c_X10_clear (dep := dep - 1)) ?_
  refine AW.iconst (pc' := 8) dX2_ofRunner_7 ?_
  refine AW.istore2n (pc' := 9) dX2_ofRunner_8 (by decide) rfl ?_
  refine AW.weak (lp_X2_ofRunner hI (a := a) (by first | assumption | omega | (constructor <;> omega) | (simp only [Int.toNat_natCast]; omega) | exact b2_in _) hd (h 12 10).toNat 0 (0, 0, 0, 0) _ (by omega) ((((EX.rf.st rfl).st rfl).st rfl).st rfl) (by unfold tal; simp only [hset_app, Nat.reduceEqDiff, and_false, true_and, and_true, false_and, reduceIte]) (TI0 (by decide)) (fun h2 e2 t2 => ?_)) (by (repeat' first | exact LSub.e | refine LSub.n ?_ | refine LSub.c ?_ ?_) <;> first | rfl | exact congrArg Sum.inl (by first | rfl | omega | omega))
  have t3 : tal h2 = rgX h a := t2
  have t4 : TI (tal h2) 1000 := by rw [t3]; exact TI.up (rgX_in hI a) (by decide)
  refine AW.aload_n (pc' := 45) dX2_ofRunner_44 rfl ?_
  refine AW.getR (pc' := 48) dX2_ofRunner_45 ly_35 fX2_12 rfl ?_
  refine AW.invV0 (pc' := 51) dX2_ofRunner_48 mlX2_93 mX10_gained ly_39 rfl (c_X10_gained (dep := dep - 1) (by first | assumption | omega | (constructor <;> omega) | (simp only [Int.toNat_natCast]; omega) | exact b2_in _) (by first | assumption | omega | (constructor <;> omega) | (simp only [Int.toNat_natCast]; omega) | exact b2_in _)) ?_
  refine AW.iret dX2_ofRunner_51 ?_ ?_
  · rw [t3]
  · exact e2
set_option maxRecDepth 100000 in
set_option maxHeartbeats 4000000 in
theorem c_X11_person {K : KT} {dep : Nat} {h : Hp} {a : Int} (hd : 5 ≤ dep) (hI : IXa h) (q1 : inI a) : AMp K yX11_person cX11_person 2 (some .int) dep [vR 0, vI a] h (some (vI (if 0 ≤ a ∧ a < h 1 4 then tgain (rgX h a) else -2000000000))) (fun x => EX [39] h x) := by
  refine AM.of (own := RX11) (ls := [some (vR 0), some (vI a)]) rfl (by decide +kernel) (by exact Nat.le_of_ble_eq_true rfl) rfl (fun hO => ?_)
  have g6 := hI.2.2.2.1
  have g7 := hI.2.2.2.2.1
  have g8 := hI.2.1.2.1
  refine AW.aload_n (pc' := 1) dX11_person_0 rfl ?_
  refine AW.getR (pc' := 4) dX11_person_1 ly_0 fX11_10 rfl ?_
  refine AW.iload_n (pc' := 5) dX11_person_4 rfl ?_
  refine AW.invV1 (pc' := 8) dX11_person_5 mlX11_132 mX6_has ly_1 rfl (c_X6_has (dep := dep - 1) (by first | assumption | omega | (constructor <;> omega) | (simp only [Int.toNat_natCast]; omega) | exact b2_in _)) ?_
  refine AW.ifb_eq (tgt := 22) (pc' := 11) dX11_person_8 (fun c8 => ?_) (fun c8 => ?_)
  · refine AW.ldc (v := -2000000000) (pc' := 24) dX11_person_22 kX11_136 ?_
    refine AW.iret dX11_person_24 ?_ ?_
    · refine congrArg (fun z : Int => (some (vI z) : Option AV)) ?_
      (repeat' split) <;> first | rfl | omega
    · first | exact EX.rf | exact s18 | exact s15 | exact s17 | exact s14 | exact s16 | assumption
  · refine AW.aload_n (pc' := 12) dX11_person_11 rfl ?_
    refine AW.getR (pc' := 15) dX11_person_12 ly_0 fX11_60 rfl ?_
    refine AW.iload_n (pc' := 16) dX11_person_15 rfl ?_
    refine AW.invQ1 (pc' := 19) dX11_person_16 mlX11_256 mX2_ofRunner ly_35 rfl (c_X2_ofRunner (dep := dep - 1) (by first | assumption | omega | (constructor <;> omega) | (simp only [Int.toNat_natCast]; omega) | exact b2_in _) (by first | assumption | omega | (constructor <;> omega) | (simp only [Int.toNat_natCast]; omega) | exact b2_in _) (by first | assumption | omega | (constructor <;> omega) | (simp only [Int.toNat_natCast]; omega) | exact b2_in _)) (fun h16 s16 => ?_)
    refine AW.goto (tgt := 24) dX11_person_19 ?_
    refine AW.iret dX11_person_24 ?_ ?_
    · refine congrArg (fun z : Int => (some (vI z) : Option AV)) ?_
      (repeat' split) <;> first | rfl | omega
    · first | exact EX.rf | exact s18 | exact s15 | exact s17 | exact s14 | exact s16 | assumption
set_option maxRecDepth 100000 in
set_option maxHeartbeats 4000000 in
theorem c_X11_isShare {K : KT} {dep : Nat} {h : Hp} {g v w : Int}  (q0 : inI g) (q1 : inI v) (q2 : inI w) : AM K yX11_isShare cX11_isShare 3 (some .boolean) dep [vI g, vI v, vI w] h (some (vI (b2 (g ≠ -2000000000 ∧ (w = 0 ∧ v ≤ g ∨ w = 2 ∨ w ≠ 0 ∧ g ≤ 0))))) (h) := by
  refine AM.of (own := RX11) (ls := [some (vI g), some (vI v), some (vI w)]) rfl (by decide +kernel) (by exact Nat.le_of_ble_eq_true rfl) rfl (fun hO => ?_)
  refine AW.iload_n (pc' := 1) dX11_isShare_0 rfl ?_
  refine AW.ldc (v := -2000000000) (pc' := 3) dX11_isShare_1 kX11_136 ?_
  refine AW.icmp_ne (tgt := 8) (pc' := 6) dX11_isShare_3 (by first | assumption | omega | (constructor <;> omega) | (simp only [Int.toNat_natCast]; omega) | exact b2_in _) (by first | assumption | omega | (constructor <;> omega) | (simp only [Int.toNat_natCast]; omega) | exact b2_in _) (fun c3 => ?_) (fun c3 => ?_)
  · refine AW.iload_n (pc' := 9) dX11_isShare_8 rfl ?_
    refine AW.if_ne (tgt := 25) (pc' := 12) dX11_isShare_9 (by first | assumption | omega | (constructor <;> omega) | (simp only [Int.toNat_natCast]; omega) | exact b2_in _) (fun c9 => ?_) (fun c9 => ?_)
    · refine AW.iload_n (pc' := 26) dX11_isShare_25 rfl ?_
      refine AW.iconst (pc' := 27) dX11_isShare_26 ?_
      refine AW.icmp_eq (tgt := 34) (pc' := 30) dX11_isShare_27 (by first | assumption | omega | (constructor <;> omega) | (simp only [Int.toNat_natCast]; omega) | exact b2_in _) (by first | assumption | omega | (constructor <;> omega) | (simp only [Int.toNat_natCast]; omega) | exact b2_in _) (fun c27 => ?_) (fun c27 => ?_)
      · refine AW.iconst (pc' := 35) dX11_isShare_34 ?_
        refine AW.goto (tgt := 39) dX11_isShare_35 ?_
        refine AW.zret dX11_isShare_39 ?_ ?_ (by first | exact Or.inl rfl | exact Or.inr rfl | exact b2_01 _ | assumption | (subst_vars; omega))
        all_goals first | rfl | exact congrArg (fun z : Int => (some (vI z) : Option AV)) (b2_t (by omega)) | exact congrArg (fun z : Int => (some (vI z) : Option AV)) (b2_f (by omega)) | ((repeat' split) <;> first | rfl | omega)
      · refine AW.iload_n (pc' := 31) dX11_isShare_30 rfl ?_
        refine AW.if_gt (tgt := 38) (pc' := 34) dX11_isShare_31 (by first | assumption | omega | (constructor <;> omega) | (simp only [Int.toNat_natCast]; omega) | exact b2_in _) (fun c31 => ?_) (fun c31 => ?_)
        · refine AW.iconst (pc' := 39) dX11_isShare_38 ?_
          refine AW.zret dX11_isShare_39 ?_ ?_ (by first | exact Or.inl rfl | exact Or.inr rfl | exact b2_01 _ | assumption | (subst_vars; omega))
          all_goals first | rfl | exact congrArg (fun z : Int => (some (vI z) : Option AV)) (b2_t (by omega)) | exact congrArg (fun z : Int => (some (vI z) : Option AV)) (b2_f (by omega)) | ((repeat' split) <;> first | rfl | omega)
        · refine AW.iconst (pc' := 35) dX11_isShare_34 ?_
          refine AW.goto (tgt := 39) dX11_isShare_35 ?_
          refine AW.zret dX11_isShare_39 ?_ ?_ (by first | exact Or.inl rfl | exact Or.inr rfl | exact b2_01 _ | assumption | (subst_vars; omega))
          all_goals first | rfl | exact congrArg (fun z : Int => (some (vI z) : Option AV)) (b2_t (by omega)) | exact congrArg (fun z : Int => (some (vI z) : Option AV)) (b2_f (by omega)) | ((repeat' split) <;> first | rfl | omega)
    · refine AW.iload_n (pc' := 13) dX11_isShare_12 rfl ?_
      refine AW.iload_n (pc' := 14) dX11_isShare_13 rfl ?_
      refine AW.icmp_lt (tgt := 21) (pc' := 17) dX11_isShare_14 (by first | assumption | omega | (constructor <;> omega) | (simp only [Int.toNat_natCast]; omega) | exact b2_in _) (by first | assumption | omega | (constructor <;> omega) | (simp only [Int.toNat_natCast]; omega) | exact b2_in _) (fun c14 => ?_) (fun c14 => ?_)
      · refine AW.iconst (pc' := 22) dX11_isShare_21 ?_
        refine AW.goto (tgt := 39) dX11_isShare_22 ?_
        refine AW.zret dX11_isShare_39 ?_ ?_ (by first | exact Or.inl rfl | exact Or.inr rfl | exact b2_01 _ | assumption | (subst_vars; omega))
        all_goals first | rfl | exact congrArg (fun z : Int => (some (vI z) : Option AV)) (b2_t (by omega)) | exact congrArg (fun z : Int => (some (vI z) : Option AV)) (b2_f (by omega)) | ((repeat' split) <;> first | rfl | omega)
      · refine AW.iconst (pc' := 18) dX11_isShare_17 ?_
        refine AW.goto (tgt := 39) dX11_isShare_18 ?_
        refine AW.zret dX11_isShare_39 ?_ ?_ (by first | exact Or.inl rfl | exact Or.inr rfl | exact b2_01 _ | assumption | (subst_vars; omega))
        all_goals first | rfl | exact congrArg (fun z : Int => (some (vI z) : Option AV)) (b2_t (by omega)) | exact congrArg (fun z : Int => (some (vI z) : Option AV)) (b2_f (by omega)) | ((repeat' split) <;> first | rfl | omega)
  · refine AW.iconst (pc' := 7) dX11_isShare_6 ?_
    refine AW.zret dX11_isShare_7 ?_ ?_ (by first | exact Or.inl rfl | exact Or.inr rfl | exact b2_01 _ | assumption | (subst_vars; omega))
    all_goals first | rfl | exact congrArg (fun z : Int => (some (vI z) : Option AV)) (b2_t (by omega)) | exact congrArg (fun z : Int => (some (vI z) : Option AV)) (b2_f (by omega)) | ((repeat' split) <;> first | rfl | omega)
set_option maxRecDepth 100000 in
set_option maxHeartbeats 4000000 in
theorem lp_X11_shares {K : KT} {X : XT} {dep : Nat} {h : Hp} {a v w : Int} (hI : IXa h) (qa : 0 ≤ a ∧ a ≤ 2) (qw : 0 ≤ w ∧ w ≤ 2) (qv : inI v) (hd : 5 ≤ dep) : ∀ (n k : Nat) (acc : Int) (h1 : Hp), (k : Int) + n = h 1 4 → EX [39] h h1 → 0 ≤ acc → acc ≤ k → (∀ h2 : Hp, EX [39] h h2 → AW K X RX11 cX11_shares 6 (some .int) dep 83 [some (vR 0), some (vI (a)), some (vI (v)), some (vI (w)), some (vI (lp (shareS (h 5) (gfX h) a v w) n k acc)), none] [] h2) → AW K X RX11 cX11_shares 6 (some .int) dep 26 [some (vR 0), some (vI (a)), some (vI (v)), some (vI (w)), some (vI (acc)), some (vI ((k : Int)))] [] h1 := by
  have g6 := hI.1.1
  have g7 := hI.1.2.1
  intro n
  induction n with
  | zero =>
    intro k acc h1 hk e1 i0 i1 kk
    have w1 := e1 1 rfl
    have w4 := e1 4 rfl
    have w5 := e1 5 rfl
    have w6 := e1 6 rfl
    have w7 := e1 7 rfl
    have w8 := e1 8 rfl
    have w10 := e1 10 rfl
    have w11 := e1 11 rfl
    have w12 := e1 12 rfl
    have w13 := e1 13 rfl
    have w14 := e1 14 rfl
    have w15 := e1 15 rfl
    have w16 := e1 16 rfl
    have w17 := e1 17 rfl
    have w18 := e1 18 rfl
    have w19 := e1 19 rfl
    have hI_w := hI.ex e1 rfl
    refine AW.iload (pc' := 28) dX11_shares_26 rfl ?_
    refine AW.aload_n (pc' := 29) dX11_shares_28 rfl ?_
    refine AW.getR (pc' := 32) dX11_shares_29 ly_0 fX11_10 rfl ?_
    refine AW.getI (pc' := 35) dX11_shares_32 ly_1 fX11_181 rfl (fun r32 => ?_)
    try simp only [w1, w4, w5, w6, w7, w8, w10, w11, w12, w13, w14, w15, w16, w17, w18, w19] at r32 ⊢
    refine AW.icmp_ge (tgt := 83) (pc' := 38) dX11_shares_35 (by first | assumption | omega | (constructor <;> omega) | (simp only [Int.toNat_natCast]; omega) | exact b2_in _) (by first | assumption | omega | (constructor <;> omega) | (simp only [Int.toNat_natCast]; omega) | exact b2_in _) (fun c35 => ?_) (fun c35 => ?_)
    · exact AW.weak (kk h1 e1) (by (repeat' first | exact LSub.e | refine LSub.n ?_ | refine LSub.c ?_ ?_) <;> first | rfl | exact congrArg Sum.inl (by first | rfl | omega | omega))
    · omega
  | succ n ih =>
    intro k acc h1 hk e1 i0 i1 kk
    have w1 := e1 1 rfl
    have w4 := e1 4 rfl
    have w5 := e1 5 rfl
    have w6 := e1 6 rfl
    have w7 := e1 7 rfl
    have w8 := e1 8 rfl
    have w10 := e1 10 rfl
    have w11 := e1 11 rfl
    have w12 := e1 12 rfl
    have w13 := e1 13 rfl
    have w14 := e1 14 rfl
    have w15 := e1 15 rfl
    have w16 := e1 16 rfl
    have w17 := e1 17 rfl
    have w18 := e1 18 rfl
    have w19 := e1 19 rfl
    have hI_w := hI.ex e1 rfl
    have hkr : ((k : Nat) : Int) < h 1 4 := by omega
    have rx : gfX h1 k = gfX h k := by simp only [gfX]; rw [rgX_ex e1 rfl]
    have tg1 := tgain_in (rgX_in hI ((k : Nat) : Int))
    have tg3 := tgain_in (rgX_in hI_w ((k : Nat) : Int))
    refine AW.iload (pc' := 28) dX11_shares_26 rfl ?_
    refine AW.aload_n (pc' := 29) dX11_shares_28 rfl ?_
    refine AW.getR (pc' := 32) dX11_shares_29 ly_0 fX11_10 rfl ?_
    refine AW.getI (pc' := 35) dX11_shares_32 ly_1 fX11_181 rfl (fun r32 => ?_)
    try simp only [w1, w4, w5, w6, w7, w8, w10, w11, w12, w13, w14, w15, w16, w17, w18, w19] at r32 ⊢
    refine AW.icmp_ge (tgt := 83) (pc' := 38) dX11_shares_35 (by first | assumption | omega | (constructor <;> omega) | (simp only [Int.toNat_natCast]; omega) | exact b2_in _) (by first | assumption | omega | (constructor <;> omega) | (simp only [Int.toNat_natCast]; omega) | exact b2_in _) (fun c35 => ?_) (fun c35 => ?_)
    · omega
    · refine AW.iload_n (pc' := 39) dX11_shares_38 rfl ?_
      refine AW.iconst (pc' := 40) dX11_shares_39 ?_
      refine AW.icmp_eq (tgt := 57) (pc' := 43) dX11_shares_40 (by first | assumption | omega | (constructor <;> omega) | (simp only [Int.toNat_natCast]; omega) | exact b2_in _) (by first | assumption | omega | (constructor <;> omega) | (simp only [Int.toNat_natCast]; omega) | exact b2_in _) (fun c40 => ?_) (fun c40 => ?_)
      · refine AW.aload_n (pc' := 58) dX11_shares_57 rfl ?_
        refine AW.getR (pc' := 61) dX11_shares_58 ly_0 fX11_60 rfl ?_
        refine AW.iload (pc' := 63) dX11_shares_61 rfl ?_
        refine AW.invQ1 (pc' := 66) dX11_shares_63 mlX11_256 mX2_ofRunner ly_35 rfl (c_X2_ofRunner (dep := dep - 1) (by first | assumption | omega | (constructor <;> omega) | (simp only [Int.toNat_natCast]; omega) | exact b2_in _) (by first | assumption | omega | (constructor <;> omega) | (simp only [Int.toNat_natCast]; omega) | exact b2_in _) (by first | assumption | omega | (constructor <;> omega) | (simp only [Int.toNat_natCast]; omega) | exact b2_in _)) (fun h63 s63 => ?_)
        try simp only [Int.toNat_natCast, w1, w4, w5, w6, w7, w8, w10, w11, w12, w13, w14, w15, w16, w17, w18, w19]
        rw [rgX_ex e1 rfl]
        refine AW.iload_n (pc' := 67) dX11_shares_66 rfl ?_
        refine AW.iload_n (pc' := 68) dX11_shares_67 rfl ?_
        refine AW.invS3 (pc' := 71) dX11_shares_68 mlX11_259 mX11_isShare (c_X11_isShare (dep := dep - 1) (by first | assumption | omega | (constructor <;> omega) | (simp only [Int.toNat_natCast]; omega) | exact b2_in _) (by first | assumption | omega | (constructor <;> omega) | (simp only [Int.toNat_natCast]; omega) | exact b2_in _) (by first | assumption | omega | (constructor <;> omega) | (simp only [Int.toNat_natCast]; omega) | exact b2_in _)) ?_
        try simp only [Int.toNat_natCast, w1, w4, w5, w6, w7, w8, w10, w11, w12, w13, w14, w15, w16, w17, w18, w19]
        refine AW.ifb_eq (tgt := 77) (pc' := 74) dX11_shares_71 (fun c71 => ?_) (fun c71 => ?_)
        · refine AW.iinc5 (pc' := 80) dX11_shares_77 (by decide) rfl ?_
          refine AW.goto (tgt := 26) dX11_shares_80 ?_
          exact AW.weak (ih (k + 1) (shareS (h 5) (gfX h) a v w k acc) _ (by omega) (e1.tr s63) (by unfold shareS; split <;> omega) (by unfold shareS; split <;> omega) kk) (by (repeat' first | exact LSub.e | refine LSub.n ?_ | refine LSub.c ?_ ?_) <;> first | rfl | exact congrArg Sum.inl (by first | rfl | omega | (unfold shareS; (try simp only [shareP, gfX] at *); (repeat' split) <;> omega)))
        · refine AW.iinc4 (pc' := 77) dX11_shares_74 (by decide) rfl ?_
          refine AW.iinc5 (pc' := 80) dX11_shares_77 (by decide) rfl ?_
          refine AW.goto (tgt := 26) dX11_shares_80 ?_
          exact AW.weak (ih (k + 1) (shareS (h 5) (gfX h) a v w k acc) _ (by omega) (e1.tr s63) (by unfold shareS; split <;> omega) (by unfold shareS; split <;> omega) kk) (by (repeat' first | exact LSub.e | refine LSub.n ?_ | refine LSub.c ?_ ?_) <;> first | rfl | exact congrArg Sum.inl (by first | rfl | omega | (unfold shareS; (try simp only [shareP, gfX] at *); (repeat' split) <;> omega)))
      · refine AW.aload_n (pc' := 44) dX11_shares_43 rfl ?_
        refine AW.getR (pc' := 47) dX11_shares_44 ly_0 fX11_10 rfl ?_
        refine AW.getR (pc' := 50) dX11_shares_47 ly_1 fX11_207 rfl ?_
        refine AW.iload (pc' := 52) dX11_shares_50 rfl ?_
        first | refine AW.ialdN (pc' := 53) dX11_shares_52 ly_5 (by first | assumption | omega | (constructor <;> omega) | (simp only [Int.toNat_natCast]; omega) | exact b2_in _) (by decide) (fun r52 => ?_) | refine AW.iald (pc' := 53) dX11_shares_52 ly_5 (by first | assumption | omega | (constructor <;> omega) | (simp only [Int.toNat_natCast]; omega) | exact b2_in _) (by first | assumption | omega | (constructor <;> omega) | (simp only [Int.toNat_natCast]; omega) | exact b2_in _) (by decide) (fun r52 => ?_)
        try simp only [w1, w4, w5, w6, w7, w8, w10, w11, w12, w13, w14, w15, w16, w17, w18, w19] at r52 ⊢
        refine AW.iload_n (pc' := 54) dX11_shares_53 rfl ?_
        refine AW.icmp_ne (tgt := 77) (pc' := 57) dX11_shares_54 (by first | assumption | omega | (constructor <;> omega) | (simp only [Int.toNat_natCast]; omega) | exact b2_in _) (by first | assumption | omega | (constructor <;> omega) | (simp only [Int.toNat_natCast]; omega) | exact b2_in _) (fun c54 => ?_) (fun c54 => ?_)
        · refine AW.iinc5 (pc' := 80) dX11_shares_77 (by decide) rfl ?_
          refine AW.goto (tgt := 26) dX11_shares_80 ?_
          exact AW.weak (ih (k + 1) (shareS (h 5) (gfX h) a v w k acc) _ (by omega) e1 (by unfold shareS; split <;> omega) (by unfold shareS; split <;> omega) kk) (by (repeat' first | exact LSub.e | refine LSub.n ?_ | refine LSub.c ?_ ?_) <;> first | rfl | exact congrArg Sum.inl (by first | rfl | omega | (unfold shareS; (try simp only [shareP, gfX] at *); (repeat' split) <;> omega)))
        · refine AW.aload_n (pc' := 58) dX11_shares_57 rfl ?_
          refine AW.getR (pc' := 61) dX11_shares_58 ly_0 fX11_60 rfl ?_
          refine AW.iload (pc' := 63) dX11_shares_61 rfl ?_
          refine AW.invQ1 (pc' := 66) dX11_shares_63 mlX11_256 mX2_ofRunner ly_35 rfl (c_X2_ofRunner (dep := dep - 1) (by first | assumption | omega | (constructor <;> omega) | (simp only [Int.toNat_natCast]; omega) | exact b2_in _) (by first | assumption | omega | (constructor <;> omega) | (simp only [Int.toNat_natCast]; omega) | exact b2_in _) (by first | assumption | omega | (constructor <;> omega) | (simp only [Int.toNat_natCast]; omega) | exact b2_in _)) (fun h63 s63 => ?_)
          try simp only [Int.toNat_natCast, w1, w4, w5, w6, w7, w8, w10, w11, w12, w13, w14, w15, w16, w17, w18, w19]
          rw [rgX_ex e1 rfl]
          refine AW.iload_n (pc' := 67) dX11_shares_66 rfl ?_
          refine AW.iload_n (pc' := 68) dX11_shares_67 rfl ?_
          refine AW.invS3 (pc' := 71) dX11_shares_68 mlX11_259 mX11_isShare (c_X11_isShare (dep := dep - 1) (by first | assumption | omega | (constructor <;> omega) | (simp only [Int.toNat_natCast]; omega) | exact b2_in _) (by first | assumption | omega | (constructor <;> omega) | (simp only [Int.toNat_natCast]; omega) | exact b2_in _) (by first | assumption | omega | (constructor <;> omega) | (simp only [Int.toNat_natCast]; omega) | exact b2_in _)) ?_
          try simp only [Int.toNat_natCast, w1, w4, w5, w6, w7, w8, w10, w11, w12, w13, w14, w15, w16, w17, w18, w19]
          refine AW.ifb_eq (tgt := 77) (pc' := 74) dX11_shares_71 (fun c71 => ?_) (fun c71 => ?_)
          · refine AW.iinc5 (pc' := 80) dX11_shares_77 (by decide) rfl ?_
            refine AW.goto (tgt := 26) dX11_shares_80 ?_
            exact AW.weak (ih (k + 1) (shareS (h 5) (gfX h) a v w k acc) _ (by omega) (e1.tr s63) (by unfold shareS; split <;> omega) (by unfold shareS; split <;> omega) kk) (by (repeat' first | exact LSub.e | refine LSub.n ?_ | refine LSub.c ?_ ?_) <;> first | rfl | exact congrArg Sum.inl (by first | rfl | omega | (unfold shareS; (try simp only [shareP, gfX] at *); (repeat' split) <;> omega)))
          · refine AW.iinc4 (pc' := 77) dX11_shares_74 (by decide) rfl ?_
            refine AW.iinc5 (pc' := 80) dX11_shares_77 (by decide) rfl ?_
            refine AW.goto (tgt := 26) dX11_shares_80 ?_
            exact AW.weak (ih (k + 1) (shareS (h 5) (gfX h) a v w k acc) _ (by omega) (e1.tr s63) (by unfold shareS; split <;> omega) (by unfold shareS; split <;> omega) kk) (by (repeat' first | exact LSub.e | refine LSub.n ?_ | refine LSub.c ?_ ?_) <;> first | rfl | exact congrArg Sum.inl (by first | rfl | omega | (unfold shareS; (try simp only [shareP, gfX] at *); (repeat' split) <;> omega)))
set_option maxRecDepth 100000 in
set_option maxHeartbeats 4000000 in
theorem c_X11_shares {K : KT} {dep : Nat} {h : Hp} {a v w : Int} (hd : 5 ≤ dep) (hI : IXa h) (q1 : inI a) (q2 : inI v) (q3 : inI w) : AMp K yX11_shares cX11_shares 6 (some .int) dep [vR 0, vI a, vI v, vI w] h (some (vI (if (0 ≤ a ∧ a ≤ 2) ∧ 0 ≤ w ∧ w ≤ 2 then shareF (h 1 4) (h 5) (gfX h) a v w else -1))) (fun x => EX [39] h x) := by
  refine AM.of (own := RX11) (ls := [some (vR 0), some (vI a), some (vI v), some (vI w), none, none]) rfl (by decide +kernel) (by exact Nat.le_of_ble_eq_true rfl) rfl (fun hO => ?_)
  have g6 := hI.1.1
  refine AW.iload_n (pc' := 1) dX11_shares_0 rfl ?_
  refine AW.iconst (pc' := 2) dX11_shares_1 ?_
  refine AW.iconst (pc' := 3) dX11_shares_2 ?_
  refine AW.invS3 (pc' := 6) dX11_shares_3 mlX11_89 mX11_within (c_X11_within (dep := dep - 1) (by first | assumption | omega | (constructor <;> omega) | (simp only [Int.toNat_natCast]; omega) | exact b2_in _) (by first | assumption | omega | (constructor <;> omega) | (simp only [Int.toNat_natCast]; omega) | exact b2_in _) (by first | assumption | omega | (constructor <;> omega) | (simp only [Int.toNat_natCast]; omega) | exact b2_in _)) ?_
  refine AW.ifb_eq (tgt := 18) (pc' := 9) dX11_shares_6 (fun c6 => ?_) (fun c6 => ?_)
  · refine AW.iconst (pc' := 19) dX11_shares_18 ?_
    refine AW.iret dX11_shares_19 ?_ ?_
    · refine congrArg (fun z : Int => (some (vI z) : Option AV)) ?_
      (repeat' split) <;> first | rfl | omega
    · first | exact EX.rf | exact e2
  · refine AW.iload_n (pc' := 10) dX11_shares_9 rfl ?_
    refine AW.iconst (pc' := 11) dX11_shares_10 ?_
    refine AW.iconst (pc' := 12) dX11_shares_11 ?_
    refine AW.invS3 (pc' := 15) dX11_shares_12 mlX11_89 mX11_within (c_X11_within (dep := dep - 1) (by first | assumption | omega | (constructor <;> omega) | (simp only [Int.toNat_natCast]; omega) | exact b2_in _) (by first | assumption | omega | (constructor <;> omega) | (simp only [Int.toNat_natCast]; omega) | exact b2_in _) (by first | assumption | omega | (constructor <;> omega) | (simp only [Int.toNat_natCast]; omega) | exact b2_in _)) ?_
    refine AW.ifb_ne (tgt := 20) (pc' := 18) dX11_shares_15 (fun c15 => ?_) (fun c15 => ?_)
    · refine AW.iconst (pc' := 21) dX11_shares_20 ?_
      refine AW.istore4 (pc' := 23) dX11_shares_21 (by decide) rfl ?_
      refine AW.iconst (pc' := 24) dX11_shares_23 ?_
      refine AW.istore5 (pc' := 26) dX11_shares_24 (by decide) rfl ?_
      refine AW.weak (lp_X11_shares hI (a := a) (v := v) (w := w) (by omega) (by omega) (by first | assumption | omega | (constructor <;> omega) | (simp only [Int.toNat_natCast]; omega) | exact b2_in _) hd (h 1 4).toNat 0 0 _ (by omega) EX.rf (by omega) (by omega) (fun h2 e2 => ?_)) (by (repeat' first | exact LSub.e | refine LSub.n ?_ | refine LSub.c ?_ ?_) <;> first | rfl | exact congrArg Sum.inl (by first | rfl | omega | omega))
      refine AW.iload (pc' := 85) dX11_shares_83 rfl ?_
      refine AW.iret dX11_shares_85 ?_ ?_
      · refine congrArg (fun z : Int => (some (vI z) : Option AV)) ?_
        (repeat' split) <;> first | rfl | omega
      · first | exact EX.rf | exact e2
    · refine AW.iconst (pc' := 19) dX11_shares_18 ?_
      refine AW.iret dX11_shares_19 ?_ ?_
      · refine congrArg (fun z : Int => (some (vI z) : Option AV)) ?_
        (repeat' split) <;> first | rfl | omega
      · first | exact EX.rf | exact e2
set_option maxRecDepth 100000 in
set_option maxHeartbeats 4000000 in
theorem lp_X11_led {K : KT} {X : XT} {dep : Nat} {h : Hp} (hI : IXa h) (hd : 5 ≤ dep) : ∀ (n k : Nat) (acc : Int) (h1 : Hp), (k : Int) + n = h 1 4 → EX [39] h h1 → (acc = -2 ∨ 0 ≤ acc ∧ acc < k) → (∀ h2 : Hp, EX [39] h h2 → AW K X RX11 cX11_led 5 (some .int) dep 46 [some (vR 0), some (vI (lp (ledS (gfX h)) n k acc)), none, none, none] [] h2) → AW K X RX11 cX11_led 5 (some .int) dep 8 [some (vR 0), some (vI (acc)), some (vI ((if acc < 0 then -2000000000 else gfX h acc.toNat))), some (vI ((k : Int))), none] [] h1 := by
  have g6 := hI.1.1
  have g7 := hI.1.2.1
  intro n
  induction n with
  | zero =>
    intro k acc h1 hk e1 i0 kk
    have w1 := e1 1 rfl
    have w4 := e1 4 rfl
    have w5 := e1 5 rfl
    have w6 := e1 6 rfl
    have w7 := e1 7 rfl
    have w8 := e1 8 rfl
    have w10 := e1 10 rfl
    have w11 := e1 11 rfl
    have w12 := e1 12 rfl
    have w13 := e1 13 rfl
    have w14 := e1 14 rfl
    have w15 := e1 15 rfl
    have w16 := e1 16 rfl
    have w17 := e1 17 rfl
    have w18 := e1 18 rfl
    have w19 := e1 19 rfl
    have hI_w := hI.ex e1 rfl
    refine AW.iload_n (pc' := 9) dX11_led_8 rfl ?_
    refine AW.aload_n (pc' := 10) dX11_led_9 rfl ?_
    refine AW.getR (pc' := 13) dX11_led_10 ly_0 fX11_10 rfl ?_
    refine AW.getI (pc' := 16) dX11_led_13 ly_1 fX11_181 rfl (fun r13 => ?_)
    try simp only [w1, w4, w5, w6, w7, w8, w10, w11, w12, w13, w14, w15, w16, w17, w18, w19] at r13 ⊢
    refine AW.icmp_ge (tgt := 46) (pc' := 19) dX11_led_16 (by first | assumption | omega | (constructor <;> omega) | (simp only [Int.toNat_natCast]; omega) | exact b2_in _) (by first | assumption | omega | (constructor <;> omega) | (simp only [Int.toNat_natCast]; omega) | exact b2_in _) (fun c16 => ?_) (fun c16 => ?_)
    · exact AW.weak (kk h1 e1) (by (repeat' first | exact LSub.e | refine LSub.n ?_ | refine LSub.c ?_ ?_) <;> first | rfl | exact congrArg Sum.inl (by first | rfl | omega | omega))
    · omega
  | succ n ih =>
    intro k acc h1 hk e1 i0 kk
    have w1 := e1 1 rfl
    have w4 := e1 4 rfl
    have w5 := e1 5 rfl
    have w6 := e1 6 rfl
    have w7 := e1 7 rfl
    have w8 := e1 8 rfl
    have w10 := e1 10 rfl
    have w11 := e1 11 rfl
    have w12 := e1 12 rfl
    have w13 := e1 13 rfl
    have w14 := e1 14 rfl
    have w15 := e1 15 rfl
    have w16 := e1 16 rfl
    have w17 := e1 17 rfl
    have w18 := e1 18 rfl
    have w19 := e1 19 rfl
    have hI_w := hI.ex e1 rfl
    have hkr : ((k : Nat) : Int) < h 1 4 := by omega
    have tg1 := tgain_in (rgX_in hI ((k : Nat) : Int))
    have tg2 := tgain_in (rgX_in hI ((acc.toNat : Nat) : Int))
    refine AW.iload_n (pc' := 9) dX11_led_8 rfl ?_
    refine AW.aload_n (pc' := 10) dX11_led_9 rfl ?_
    refine AW.getR (pc' := 13) dX11_led_10 ly_0 fX11_10 rfl ?_
    refine AW.getI (pc' := 16) dX11_led_13 ly_1 fX11_181 rfl (fun r13 => ?_)
    try simp only [w1, w4, w5, w6, w7, w8, w10, w11, w12, w13, w14, w15, w16, w17, w18, w19] at r13 ⊢
    refine AW.icmp_ge (tgt := 46) (pc' := 19) dX11_led_16 (by first | assumption | omega | (constructor <;> omega) | (simp only [Int.toNat_natCast]; omega) | exact b2_in _) (by first | assumption | omega | (constructor <;> omega) | (simp only [Int.toNat_natCast]; omega) | exact b2_in _) (fun c16 => ?_) (fun c16 => ?_)
    · omega
    · refine AW.aload_n (pc' := 20) dX11_led_19 rfl ?_
      refine AW.getR (pc' := 23) dX11_led_20 ly_0 fX11_60 rfl ?_
      refine AW.iload_n (pc' := 24) dX11_led_23 rfl ?_
      refine AW.invQ1 (pc' := 27) dX11_led_24 mlX11_256 mX2_ofRunner ly_35 rfl (c_X2_ofRunner (dep := dep - 1) (by first | assumption | omega | (constructor <;> omega) | (simp only [Int.toNat_natCast]; omega) | exact b2_in _) (by first | assumption | omega | (constructor <;> omega) | (simp only [Int.toNat_natCast]; omega) | exact b2_in _) (by first | assumption | omega | (constructor <;> omega) | (simp only [Int.toNat_natCast]; omega) | exact b2_in _)) (fun h24 s24 => ?_)
      try simp only [Int.toNat_natCast, w1, w4, w5, w6, w7, w8, w10, w11, w12, w13, w14, w15, w16, w17, w18, w19]
      rw [rgX_ex e1 rfl]
      refine AW.istore4 (pc' := 29) dX11_led_27 (by decide) rfl ?_
      refine AW.iload (pc' := 31) dX11_led_29 rfl ?_
      have tt : inI (if acc < 0 then -2000000000 else gfX h acc.toNat) := by simp only [gfX]; split <;> (constructor <;> omega)
      refine AW.iload_n (pc' := 32) dX11_led_31 rfl ?_
      refine AW.icmp_le (tgt := 40) (pc' := 35) dX11_led_32 (by first | assumption | omega | (constructor <;> omega) | (simp only [Int.toNat_natCast]; omega) | exact b2_in _) (by first | assumption | omega | (constructor <;> omega) | (simp only [Int.toNat_natCast]; omega) | exact b2_in _) (fun c32 => ?_) (fun c32 => ?_)
      · refine AW.iinc3 (pc' := 43) dX11_led_40 (by decide) rfl ?_
        refine AW.goto (tgt := 8) dX11_led_43 ?_
        exact AW.weak (ih (k + 1) (ledS (gfX h) k acc) _ (by omega) (e1.tr s24) (by unfold ledS; split <;> omega) kk) (by (repeat' first | exact LSub.e | refine LSub.n ?_ | refine LSub.c ?_ ?_) <;> first | rfl | exact congrArg Sum.inl (by first | rfl | omega | (unfold ledS; (try simp only [gfX] at *); (repeat' split) <;> first | rfl | omega | (exfalso; omega))))
      · refine AW.iload (pc' := 37) dX11_led_35 rfl ?_
        refine AW.istore2n (pc' := 38) dX11_led_37 (by decide) rfl ?_
        refine AW.iload_n (pc' := 39) dX11_led_38 rfl ?_
        refine AW.istore1n (pc' := 40) dX11_led_39 (by decide) rfl ?_
        refine AW.iinc3 (pc' := 43) dX11_led_40 (by decide) rfl ?_
        refine AW.goto (tgt := 8) dX11_led_43 ?_
        exact AW.weak (ih (k + 1) (ledS (gfX h) k acc) _ (by omega) (e1.tr s24) (by unfold ledS; split <;> omega) kk) (by (repeat' first | exact LSub.e | refine LSub.n ?_ | refine LSub.c ?_ ?_) <;> first | rfl | exact congrArg Sum.inl (by first | rfl | omega | (unfold ledS; (try simp only [gfX] at *); (repeat' split) <;> first | rfl | omega | (exfalso; omega))))
set_option maxRecDepth 100000 in
set_option maxHeartbeats 4000000 in
theorem c_X11_led {K : KT} {dep : Nat} {h : Hp}  (hd : 5 ≤ dep) (hI : IXa h) : AMp K yX11_led cX11_led 5 (some .int) dep [vR 0] h (some (vI (ledF (h 1 4) (gfX h)))) (fun x => EX [39] h x) := by
  refine AM.of (own := RX11) (ls := [some (vR 0), none, none, none, none]) rfl (by decide +kernel) (by exact Nat.le_of_ble_eq_true rfl) rfl (fun hO => ?_)
  have g6 := hI.1.1
  refine AW.bipush (pc' := 2) dX11_led_0 (by decide) ?_
  refine AW.istore1n (pc' := 3) dX11_led_2 (by decide) rfl ?_
  refine AW.ldc (v := -2000000000) (pc' := 5) dX11_led_3 kX11_136 ?_
  refine AW.istore2n (pc' := 6) dX11_led_5 (by decide) rfl ?_
  refine AW.iconst (pc' := 7) dX11_led_6 ?_
  refine AW.istore3n (pc' := 8) dX11_led_7 (by decide) rfl ?_
  refine AW.weak (lp_X11_led hI hd (h 1 4).toNat 0 (-2) _ (by omega) EX.rf (Or.inl rfl) (fun h2 e2 => ?_)) (by (repeat' first | exact LSub.e | refine LSub.n ?_ | refine LSub.c ?_ ?_) <;> first | rfl | exact congrArg Sum.inl (by first | rfl | omega | omega))
  refine AW.iload_n (pc' := 47) dX11_led_46 rfl ?_
  refine AW.iret dX11_led_47 ?_ ?_
  · rfl
  · exact e2
