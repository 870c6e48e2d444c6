/-! the class: unseen -/
def cbF (g : Prop) [Decidable g] (rc : Nat → Prop) (dr : ∀ k, Decidable (rc k)) (sh gv lv : Nat → Int) : Nat → Nat → T4 → Nat → (Nat → Int) → Int
  | 0, _, t, m, row => if m = 0 then -2000000000 else fuF g t m row
  | n + 1, k, t, m, row => match dr k with
    | .isFalse _ => cbF g rc dr sh gv lv n (k + 1) t m row
    | .isTrue _ => if 0 ≤ sh k then cbF g rc dr sh gv lv n (k + 1) (seenT sh gv lv k t) m row else if 12 ≤ m then -2000000000 else cbF g rc dr sh gv lv n (k + 1) t (m + 1) (hdR row m (lv k))
abbrev rcP (co ye : Nat → Int) (c y : Int) (k : Nat) : Prop := co k = c ∧ ye k = y
abbrev cbQ (g : Prop) [Decidable g] (co ye : Nat → Int) (c y : Int) (sh gv lv : Nat → Int) : Nat → Nat → T4 → Nat → (Nat → Int) → Int := cbF g (rcP co ye c y) (fun k => inferInstance) sh gv lv
theorem cbQ_no {g : Prop} [d : Decidable g] {co ye sh gv lv : Nat → Int} {c y : Int} {n k m : Nat} {t : T4} {row : Nat → Int} (h : ¬ rcP co ye c y k) : cbQ g co ye c y sh gv lv (n + 1) k t m row = cbQ g co ye c y sh gv lv n (k + 1) t m row := by
  show cbF _ _ _ _ _ _ (n + 1) k t m row = _
  rw [cbF]
  split
  · rfl
  · rename_i z _; exact absurd z h
theorem cbQ_yes {g : Prop} [d : Decidable g] {co ye sh gv lv : Nat → Int} {c y : Int} {n k m : Nat} {t : T4} {row : Nat → Int} (h : rcP co ye c y k) : cbQ g co ye c y sh gv lv (n + 1) k t m row = if 0 ≤ sh k then cbQ g co ye c y sh gv lv n (k + 1) (seenT sh gv lv k t) m row else if 12 ≤ m then -2000000000 else cbQ g co ye c y sh gv lv n (k + 1) t (m + 1) (hdR row m (lv k)) := by
  show cbF _ _ _ _ _ _ (n + 1) k t m row = _
  rw [cbF]
  split
  · rename_i z _; exact absurd h z
  · rfl
theorem hdR_in {row : Nat → Int} {m : Nat} {lv A B : Int} (h : ∀ j : Nat, j < m → A ≤ row j ∧ row j ≤ B) (h1 : A ≤ lv) (h2 : lv ≤ B) : ∀ j : Nat, j < m + 1 → A ≤ hdR row m lv j ∧ hdR row m lv j ≤ B := fun j hj => by
  have p := hdP_le row lv m
  unfold hdR
  split
  · exact ⟨h1, h2⟩
  · split
    · exact h (j - 1) (by omega)
    · exact h j (by omega)
abbrev cbX (h : Hp) (g : Prop) [Decidable g] (c y : Int) : Nat → Nat → T4 → Nat → (Nat → Int) → Int := cbQ g (h 14) (h 15) c y (h 17) (h 8) (lvX h)
set_option maxRecDepth 100000 in
set_option maxHeartbeats 4000000 in
theorem lp_X2_canBe {K : KT}  {dep : Nat} {h : Hp} {a b : Int} {g : Prop} {dg : Decidable g} (hI : IXa h) (qa : inI a) (qb : inI b) (hd : 4 ≤ dep) : ∀ (n k : Nat) (t : T4) (m : Nat) (row : Nat → Int) (h1 : Hp), (k : Int) + n = h 12 10 → EX [38, 39] h h1 → tal h1 = t → h1 38 = row → TI t k → m ≤ 12 → m ≤ k → (∀ j : Nat, j < m → 5 ≤ row j ∧ row j ≤ 59998) → AW K (XP K (some (vI (cbX h g a b n k t m row))) (fun x => EX [38, 39] h x)) RX2 cX2_canBe 6 (some .int) dep 13 [some (vR 35), some (vI (a)), some (vI (b)), some (vI (b2 g)), some (vI ((m : Int))), some (vI ((k : Int)))] [] h1 := by
  have g6 := hI.2.2.2.1
  have g7 := hI.2.2.2.2.1
  have g8 := hI.2.1.2.1
  intro n
  induction n with
  | zero =>
    intro k t m row h1 hk e1 t1 r1 i0 m12 hm hr
    have w1 := e1 1 rfl
    have w4 := e1 4 rfl
    have w5 := e1 5 rfl
    have w6 := e1 6 rfl
    have w7 := e1 7 rfl
    have w8 := e1 8 rfl
    have w10 := e1 10 rfl
    have w11 := e1 11 rfl
    have w12 := e1 12 rfl
    have w13 := e1 13 rfl
    have w14 := e1 14 rfl
    have w15 := e1 15 rfl
    have w16 := e1 16 rfl
    have w17 := e1 17 rfl
    have w18 := e1 18 rfl
    have w19 := e1 19 rfl
    have hI_w := hI.ex e1 rfl
    have g7 := hI.2.2.2.2.1
    have q1 : TI (tal h1) 200 := by rw [t1]; exact TI.up i0 (by omega)
    have hr2 : ∀ j : Nat, j < ((m : Nat) : Int).toNat → 5 ≤ h1 38 j ∧ h1 38 j ≤ 59998 := fun j hj => by rw [r1]; exact hr j (by omega)
    refine AW.iload (pc' := 15) dX2_canBe_13 rfl ?_
    refine AW.aload_n (pc' := 16) dX2_canBe_15 rfl ?_
    refine AW.getR (pc' := 19) dX2_canBe_16 ly_35 fX2_29 rfl ?_
    refine AW.getI (pc' := 22) dX2_canBe_19 ly_12 fX2_55 rfl (fun r19 => ?_)
    try simp only [w1, w4, w5, w6, w7, w8, w10, w11, w12, w13, w14, w15, w16, w17, w18, w19, Int.toNat_natCast] at r19 ⊢
    refine AW.icmp_ge (tgt := 94) (pc' := 25) dX2_canBe_22 (by first | assumption | omega | (constructor <;> omega) | (simp only [Int.toNat_natCast]; omega) | exact b2_in _) (by first | assumption | omega | (constructor <;> omega) | (simp only [Int.toNat_natCast]; omega) | exact b2_in _) (fun c22 => ?_) (fun c22 => ?_)
    · refine AW.iload (pc' := 96) dX2_canBe_94 rfl ?_
      refine AW.if_ne (tgt := 104) (pc' := 99) dX2_canBe_96 (by first | assumption | omega | (constructor <;> omega) | (simp only [Int.toNat_natCast]; omega) | exact b2_in _) (fun c96 => ?_) (fun c96 => ?_)
      · refine AW.aload_n (pc' := 105) dX2_canBe_104 rfl ?_
        refine AW.iload (pc' := 107) dX2_canBe_105 rfl ?_
        refine AW.iload_n (pc' := 108) dX2_canBe_107 rfl ?_
        refine AW.invQ2 (pc' := 111) dX2_canBe_108 mlX2_132 mX2_furthest ly_35 rfl (c_X2_furthest (dep := dep - 1) (by omega) (by omega) q1 hr2) (fun h108 s108 => ?_)
        try simp only [Int.toNat_natCast, w1, w4, w5, w6, w7, w8, w10, w11, w12, w13, w14, w15, w16, w17, w18, w19, Int.toNat_natCast]
        refine AW.iret dX2_canBe_111 ?_ ?_
        · refine congrArg (fun z : Int => (some (vI z) : Option AV)) ?_
          unfold cbF
          first | (rw [if_pos (by omega)]; done) | (rw [if_neg (by omega), t1, r1])
        · first | exact e1 | exact e1.tr (s108.wd (fun k hk => by simp at hk ⊢; omega))
      · skip
        refine AW.ldc (v := -2000000000) (pc' := 101) dX2_canBe_99 kX2_73 ?_
        refine AW.goto (tgt := 111) dX2_canBe_101 ?_
        refine AW.iret dX2_canBe_111 ?_ ?_
        · refine congrArg (fun z : Int => (some (vI z) : Option AV)) ?_
          unfold cbF
          first | (rw [if_pos (by omega)]; done) | (rw [if_neg (by omega), t1, r1])
        · first | exact e1 | exact e1.tr (s108.wd (fun k hk => by simp at hk ⊢; omega))
    · refine AW.aload_n (pc' := 26) dX2_canBe_25 rfl ?_
      omega
  | succ n ih =>
    intro k t m row h1 hk e1 t1 r1 i0 m12 hm hr
    have w1 := e1 1 rfl
    have w4 := e1 4 rfl
    have w5 := e1 5 rfl
    have w6 := e1 6 rfl
    have w7 := e1 7 rfl
    have w8 := e1 8 rfl
    have w10 := e1 10 rfl
    have w11 := e1 11 rfl
    have w12 := e1 12 rfl
    have w13 := e1 13 rfl
    have w14 := e1 14 rfl
    have w15 := e1 15 rfl
    have w16 := e1 16 rfl
    have w17 := e1 17 rfl
    have w18 := e1 18 rfl
    have w19 := e1 19 rfl
    have hI_w := hI.ex e1 rfl
    have v1 := w1
    have v4 := w4
    have v5 := w5
    have v6 := w6
    have v7 := w7
    have v8 := w8
    have v10 := w10
    have v11 := w11
    have v12 := w12
    have v13 := w13
    have v14 := w14
    have v15 := w15
    have v16 := w16
    have v17 := w17
    have v18 := w18
    have v19 := w19
    have hkr : (k : Int) < h 12 10 := by omega
    have g12 : h1 12 10 = h 12 10 := by rw [w12]
    have g5 := hI.2.2.2.2.2 k hkr
    have lv1 := lvl_in hI.2.2.2 hI.2.2.1 hkr
    have q1 : TI (tal h1) 900 := by rw [t1]; exact TI.up i0 (by omega)
    have i1 : TI (seenT (h 17) (h 8) (lvX h) k t) ((k + 1 : Nat) : Int) := seenT_in i0 lv1.2.2.1 lv1.2.2.2
    have i2 : TI t ((k + 1 : Nat) : Int) := TI.up i0 (by omega)
    refine AW.iload (pc' := 15) dX2_canBe_13 rfl ?_
    refine AW.aload_n (pc' := 16) dX2_canBe_15 rfl ?_
    refine AW.getR (pc' := 19) dX2_canBe_16 ly_35 fX2_29 rfl ?_
    refine AW.getI (pc' := 22) dX2_canBe_19 ly_12 fX2_55 rfl (fun r19 => ?_)
    try simp only [w1, w4, w5, w6, w7, w8, w10, w11, w12, w13, w14, w15, w16, w17, w18, w19, v1, v4, v5, v6, v7, v8, v10, v11, v12, v13, v14, v15, v16, v17, v18, v19, Int.toNat_natCast] at r19 ⊢
    refine AW.icmp_ge (tgt := 94) (pc' := 25) dX2_canBe_22 (by first | assumption | omega | (constructor <;> omega) | (simp only [Int.toNat_natCast]; omega) | exact b2_in _) (by first | assumption | omega | (constructor <;> omega) | (simp only [Int.toNat_natCast]; omega) | exact b2_in _) (fun c22 => ?_) (fun c22 => ?_)
    · omega
    · refine AW.aload_n (pc' := 26) dX2_canBe_25 rfl ?_
      refine AW.getR (pc' := 29) dX2_canBe_26 ly_35 fX2_29 rfl ?_
      refine AW.iload (pc' := 31) dX2_canBe_29 rfl ?_
      refine AW.iload_n (pc' := 32) dX2_canBe_31 rfl ?_
      refine AW.iload_n (pc' := 33) dX2_canBe_32 rfl ?_
      refine AW.invV3 (pc' := 36) dX2_canBe_33 mlX2_106 mX7_isOfRace ly_12 rfl (c_X7_isOfRace (dep := dep - 1) (by first | assumption | omega | (constructor <;> omega) | (simp only [Int.toNat_natCast]; omega) | exact b2_in _) (by first | assumption | omega | (constructor <;> omega) | (simp only [Int.toNat_natCast]; omega) | exact b2_in _) (by first | assumption | omega | (constructor <;> omega) | (simp only [Int.toNat_natCast]; omega) | exact b2_in _)) ?_
      try simp only [Int.toNat_natCast, w1, w4, w5, w6, w7, w8, w10, w11, w12, w13, w14, w15, w16, w17, w18, w19, v1, v4, v5, v6, v7, v8, v10, v11, v12, v13, v14, v15, v16, v17, v18, v19, Int.toNat_natCast]
      refine AW.ifb_ne (tgt := 42) (pc' := 39) dX2_canBe_36 (fun c36 => ?_) (fun c36 => ?_)
      · refine AW.aload_n (pc' := 43) dX2_canBe_42 rfl ?_
        refine AW.iload (pc' := 45) dX2_canBe_43 rfl ?_
        refine AW.invQ1v (pc' := 48) dX2_canBe_45 mlX2_86 mX2_addSeen ly_35 rfl (c_X2_addSeen (dep := dep - 1) (by first | assumption | omega | (constructor <;> omega) | (simp only [Int.toNat_natCast]; omega) | exact b2_in _) (by first | assumption | omega | (constructor <;> omega) | (simp only [Int.toNat_natCast]; omega) | exact b2_in _) (by first | assumption | omega | (constructor <;> omega) | (simp only [Int.toNat_natCast]; omega) | exact b2_in _) (by first | assumption | omega | (constructor <;> omega) | (simp only [Int.toNat_natCast]; omega) | exact b2_in _)) (fun h45 s45 => ?_)
        try simp only [Int.toNat_natCast, w1, w4, w5, w6, w7, w8, w10, w11, w12, w13, w14, w15, w16, w17, w18, w19, v1, v4, v5, v6, v7, v8, v10, v11, v12, v13, v14, v15, v16, v17, v18, v19, Int.toNat_natCast]
        obtain ⟨e2, t2⟩ := s45
        have e3 := e1.tr (e2.wd (ks' := [38, 39]) (fun k hk => by simp at hk ⊢; omega))
        simp only [w1, w4, w5, w6, w7, w8, w10, w11, w12, w13, w14, w15, w16, w17, w18, w19, Int.toNat_natCast] at t2
        rw [t1] at t2
        have r3 : h45 38 = row := (e2 38 rfl).trans r1
        have v1 := e3 1 rfl
        have v4 := e3 4 rfl
        have v5 := e3 5 rfl
        have v6 := e3 6 rfl
        have v7 := e3 7 rfl
        have v8 := e3 8 rfl
        have v10 := e3 10 rfl
        have v11 := e3 11 rfl
        have v12 := e3 12 rfl
        have v13 := e3 13 rfl
        have v14 := e3 14 rfl
        have v15 := e3 15 rfl
        have v16 := e3 16 rfl
        have v17 := e3 17 rfl
        have v18 := e3 18 rfl
        have v19 := e3 19 rfl
        have hI_v := hI.ex e3 rfl
        have g13 : h45 12 10 = h 12 10 := by rw [v12]
        have g14 : h45 6 3 = h 6 3 := by rw [v6]
        refine AW.aload_n (pc' := 49) dX2_canBe_48 rfl ?_
        refine AW.getR (pc' := 52) dX2_canBe_49 ly_35 fX2_29 rfl ?_
        refine AW.iload (pc' := 54) dX2_canBe_52 rfl ?_
        refine AW.invV1 (pc' := 57) dX2_canBe_54 mlX2_38 mX7_isSeen ly_12 rfl (c_X7_isSeen (dep := dep - 1) (by first | assumption | omega | (constructor <;> omega) | (simp only [Int.toNat_natCast]; omega) | exact b2_in _) (by first | assumption | omega | (constructor <;> omega) | (simp only [Int.toNat_natCast]; omega) | exact b2_in _)) ?_
        try simp only [Int.toNat_natCast, w1, w4, w5, w6, w7, w8, w10, w11, w12, w13, w14, w15, w16, w17, w18, w19, v1, v4, v5, v6, v7, v8, v10, v11, v12, v13, v14, v15, v16, v17, v18, v19, Int.toNat_natCast]
        refine AW.ifb_ne (tgt := 88) (pc' := 60) dX2_canBe_57 (fun c57 => ?_) (fun c57 => ?_)
        · refine AW.iinc5 (pc' := 91) dX2_canBe_88 (by decide) rfl ?_
          refine AW.goto (tgt := 13) dX2_canBe_91 ?_
          rw [show cbX h g a b (n + 1) k t m row = _ from (cbQ_yes (by assumption)).trans (if_pos (by omega))]
          exact AW.weak (ih (k + 1) (seenT (h 17) (h 8) (lvX h) k t) m row _ (by omega) e3 t2 r3 i1 m12 (by omega) hr) (by (repeat' first | exact LSub.e | refine LSub.n ?_ | refine LSub.c ?_ ?_) <;> first | rfl | exact congrArg Sum.inl (by first | rfl | omega | (push_cast; omega)) | exact congrArg (fun z : Int => (vL z : AV)) (by first | rfl | omega | (push_cast; omega)))
        · refine AW.iload (pc' := 62) dX2_canBe_60 rfl ?_
          refine AW.bipush (pc' := 64) dX2_canBe_62 (by decide) ?_
          refine AW.icmp_lt (tgt := 70) (pc' := 67) dX2_canBe_64 (by first | assumption | omega | (constructor <;> omega) | (simp only [Int.toNat_natCast]; omega) | exact b2_in _) (by first | assumption | omega | (constructor <;> omega) | (simp only [Int.toNat_natCast]; omega) | exact b2_in _) (fun c64 => ?_) (fun c64 => ?_)
          · refine AW.aload_n (pc' := 71) dX2_canBe_70 rfl ?_
            refine AW.iload (pc' := 73) dX2_canBe_71 rfl ?_
            refine AW.aload_n (pc' := 74) dX2_canBe_73 rfl ?_
            refine AW.getR (pc' := 77) dX2_canBe_74 ly_35 fX2_29 rfl ?_
            refine AW.iload (pc' := 79) dX2_canBe_77 rfl ?_
            refine AW.invV1 (pc' := 82) dX2_canBe_79 mlX2_45 mX7_level ly_12 rfl (c_X7_level (dep := dep - 1) (by first | assumption | omega | (constructor <;> omega) | (simp only [Int.toNat_natCast]; omega) | exact b2_in _) (by first | assumption | omega | (constructor <;> omega) | (simp only [Int.toNat_natCast]; omega) | exact b2_in _) (by first | assumption | omega | (constructor <;> omega) | (simp only [Int.toNat_natCast]; omega) | exact b2_in _)) ?_
            try simp only [Int.toNat_natCast, w1, w4, w5, w6, w7, w8, w10, w11, w12, w13, w14, w15, w16, w17, w18, w19, v1, v4, v5, v6, v7, v8, v10, v11, v12, v13, v14, v15, v16, v17, v18, v19, Int.toNat_natCast]
            refine AW.invQ2v (pc' := 85) dX2_canBe_82 mlX2_128 mX2_hide ly_35 rfl (c_X2_hide (dep := dep - 1) (by omega) (by omega)) (fun h82 s82 => ?_)
            try simp only [Int.toNat_natCast, w1, w4, w5, w6, w7, w8, w10, w11, w12, w13, w14, w15, w16, w17, w18, w19, v1, v4, v5, v6, v7, v8, v10, v11, v12, v13, v14, v15, v16, v17, v18, v19, Int.toNat_natCast]
            refine AW.iinc4 (pc' := 88) dX2_canBe_85 (by decide) rfl ?_
            refine AW.iinc5 (pc' := 91) dX2_canBe_88 (by decide) rfl ?_
            refine AW.goto (tgt := 13) dX2_canBe_91 ?_
            obtain ⟨e4, r4⟩ := s82
            have e5 := e3.tr (e4.wd (ks' := [38, 39]) (fun k hk => by simp at hk ⊢; omega))
            rw [r3] at r4
            have r5 : h82 38 = hdR row m (lvX h k) := funext fun j => by have := r4 j; simpa using this
            have t5 : tal h82 = t := by
              have y : tal h82 = tal h45 := by unfold tal; rw [e4 39 rfl]
              rw [y, t2]; unfold seenT; rw [if_neg (by omega)]
            rw [show cbX h g a b (n + 1) k t m row = _ from (cbQ_yes (by assumption)).trans ((if_neg (by omega)).trans (if_neg (by omega)))]
            exact AW.weak (ih (k + 1) t (m + 1) (hdR row m (lvX h k)) _ (by omega) e5 t5 r5 i2 (by omega) (by omega) (hdR_in hr (by simp only [lvX]; omega) (by simp only [lvX]; omega))) (by (repeat' first | exact LSub.e | refine LSub.n ?_ | refine LSub.c ?_ ?_) <;> first | rfl | exact congrArg Sum.inl (by first | rfl | omega | (push_cast; omega)) | exact congrArg (fun z : Int => (vL z : AV)) (by first | rfl | omega | (push_cast; omega)))
          · refine AW.ldc (v := -2000000000) (pc' := 69) dX2_canBe_67 kX2_73 ?_
            refine AW.iret dX2_canBe_69 ?_ ?_
            · refine congrArg (fun z : Int => (some (vI z) : Option AV)) ?_
              rw [show cbX h g a b (n + 1) k t m row = _ from (cbQ_yes (by assumption)).trans ((if_neg (by omega)).trans (if_pos (by omega)))]
            · exact e3
      · refine AW.goto (tgt := 88) dX2_canBe_39 ?_
        refine AW.iinc5 (pc' := 91) dX2_canBe_88 (by decide) rfl ?_
        refine AW.goto (tgt := 13) dX2_canBe_91 ?_
        rw [show cbX h g a b (n + 1) k t m row = _ from cbQ_no (by assumption)]
        exact AW.weak (ih (k + 1) t m row _ (by omega) e1 t1 r1 i2 m12 (by omega) hr) (by (repeat' first | exact LSub.e | refine LSub.n ?_ | refine LSub.c ?_ ?_) <;> first | rfl | exact congrArg Sum.inl (by first | rfl | omega | (push_cast; omega)) | exact congrArg (fun z : Int => (vL z : AV)) (by first | rfl | omega | (push_cast; omega)))
set_option maxRecDepth 100000 in
set_option maxHeartbeats 4000000 in
theorem c_X2_canBe {K : KT} {dep : Nat} {h : Hp} {a b : Int} {g : Prop} {dg : Decidable g} (hd : 4 ≤ dep) (hI : IXa h) (q1 : inI a) (q2 : inI b) : AMp K yX2_canBe cX2_canBe 6 (some .int) dep [vR 35, vI a, vI b, vI (b2 g)] h (some (vI (cbX h g a b (h 12 10).toNat 0 (0, 0, 0, 0) 0 (h 38)))) (fun x => EX [38, 39] h x) := by
  refine AM.of (own := RX2) (ls := [some (vR 35), some (vI a), some (vI b), some (vI (b2 g)), none, none]) rfl (by decide +kernel) (by exact Nat.le_of_ble_eq_true rfl) rfl (fun hO => ?_)
  have g6 := hI.2.2.2.1
  have g7 := hI.2.2.2.2.1
  have g8 := hI.2.1.2.1
  refine AW.iconst (pc' := 1) dX2_canBe_0 ?_
  refine AW.istore4 (pc' := 3) dX2_canBe_1 (by decide) rfl ?_
  refine AW.aload_n (pc' := 4) dX2_canBe_3 rfl ?_
  refine AW.getR (pc' := 7) dX2_canBe_4 ly_35 fX2_12 rfl ?_
  refine AW.invV0v (pc' := 10) dX2_canBe_7 mlX2_80 mX10_clear ly_39 rfl (c_X10_clear (dep := dep - 1)) ?_
  refine AW.iconst (pc' := 11) dX2_canBe_10 ?_
  refine AW.istore5 (pc' := 13) dX2_canBe_11 (by decide) rfl ?_
  exact AW.weak (lp_X2_canBe hI (a := a) (b := b) (g := g) (by omega) (by omega) hd (h 12 10).toNat 0 (0, 0, 0, 0) 0 (h 38) _ (by omega) ((((EX.rf.st rfl).st rfl).st rfl).st rfl) (by unfold tal; simp only [hset_app, Nat.reduceEqDiff, and_false, true_and, and_true, false_and, reduceIte]) (by funext j; simp only [hset_app, Nat.reduceEqDiff, and_false, true_and, and_true, false_and, reduceIte]) (TI0 (by decide)) (by omega) (by omega) (fun j hj => absurd hj (Nat.not_lt_zero _))) (by (repeat' first | exact LSub.e | refine LSub.n ?_ | refine LSub.c ?_ ?_) <;> first | rfl | exact congrArg Sum.inl (by first | rfl | omega | omega) | exact congrArg (fun z : Int => (vL z : AV)) (by first | rfl | omega | omega))
set_option maxRecDepth 100000 in
set_option maxHeartbeats 4000000 in
theorem c_X11_unseen {K : KT} {dep : Nat} {h : Hp} {a b : Int} (hd : 5 ≤ dep) (hI : IXa h) (q1 : inI a) (q2 : inI b) : AMp K yX11_unseen cX11_unseen 3 (some .int) dep [vR 0, vI a, vI b] h (some (vI (if ¬ (0 ≤ a ∧ (0 ≤ a.tdiv 100 ∧ a.tdiv 100 < h 10 1) ∧ 0 ≤ b ∧ b ≤ 1) then -2000000000 else cbX h (b = 1) (a.tdiv 100) (a.tmod 100) (h 12 10).toNat 0 (0, 0, 0, 0) 0 (h 38)))) (fun x => EX [38, 39] h x) := by
  refine AM.of (own := RX11) (ls := [some (vR 0), some (vI a), some (vI b)]) rfl (by decide +kernel) (by exact Nat.le_of_ble_eq_true rfl) rfl (fun hO => ?_)
  have g6 := hI.2.2.2.1
  have g7 := hI.2.2.2.2.1
  have g8 := hI.2.1.2.1
  have d1 : 0 ≤ a → 0 ≤ a.tdiv 100 ∧ a.tdiv 100 ≤ a := fun z => tdiv_le z (by decide)
  have m1 := tmod_bounds (a := a) (M := 100) (by decide)
  have v1 : inI (a.tmod 100) := by constructor <;> omega
  refine AW.iload_n (pc' := 1) dX11_unseen_0 rfl ?_
  refine AW.if_lt (tgt := 27) (pc' := 4) dX11_unseen_1 (by first | assumption | omega | (constructor <;> omega) | (simp only [Int.toNat_natCast]; omega) | exact b2_in _) (fun c1 => ?_) (fun c1 => ?_)
  · refine AW.ldc (v := -2000000000) (pc' := 29) dX11_unseen_27 kX11_136 ?_
    refine AW.iret dX11_unseen_29 ?_ ?_
    · first | (rw [if_pos (by omega)]; done) | (rw [if_neg (by omega)]; done)
    · first | exact EX.rf | exact s52
  · refine AW.aload_n (pc' := 5) dX11_unseen_4 rfl ?_
    refine AW.getR (pc' := 8) dX11_unseen_5 ly_0 fX11_26 rfl ?_
    refine AW.iload_n (pc' := 9) dX11_unseen_8 rfl ?_
    refine AW.bipush (pc' := 11) dX11_unseen_9 (by decide) ?_
    refine AW.idiv (pc' := 12) dX11_unseen_11 (by first | assumption | omega | (constructor <;> omega) | (simp only [Int.toNat_natCast]; omega) | exact b2_in _) (by first | assumption | omega | (constructor <;> omega) | (simp only [Int.toNat_natCast]; omega) | exact b2_in _) (by first | assumption | omega | (constructor <;> omega) | (simp only [Int.toNat_natCast]; omega) | exact b2_in _) ?_
    refine AW.invV1 (pc' := 15) dX11_unseen_12 mlX11_133 mX4_has ly_10 rfl (c_X4_has (dep := dep - 1) (by first | assumption | omega | (constructor <;> omega) | (simp only [Int.toNat_natCast]; omega) | exact b2_in _)) ?_
    refine AW.ifb_eq (tgt := 27) (pc' := 18) dX11_unseen_15 (fun c15 => ?_) (fun c15 => ?_)
    · refine AW.ldc (v := -2000000000) (pc' := 29) dX11_unseen_27 kX11_136 ?_
      refine AW.iret dX11_unseen_29 ?_ ?_
      · first | (rw [if_pos (by omega)]; done) | (rw [if_neg (by omega)]; done)
      · first | exact EX.rf | exact s52
    · refine AW.iload_n (pc' := 19) dX11_unseen_18 rfl ?_
      refine AW.iconst (pc' := 20) dX11_unseen_19 ?_
      refine AW.iconst (pc' := 21) dX11_unseen_20 ?_
      refine AW.invS3 (pc' := 24) dX11_unseen_21 mlX11_89 mX11_within (c_X11_within (dep := dep - 1) (by first | assumption | omega | (constructor <;> omega) | (simp only [Int.toNat_natCast]; omega) | exact b2_in _) (by first | assumption | omega | (constructor <;> omega) | (simp only [Int.toNat_natCast]; omega) | exact b2_in _) (by first | assumption | omega | (constructor <;> omega) | (simp only [Int.toNat_natCast]; omega) | exact b2_in _)) ?_
      refine AW.ifb_ne (tgt := 30) (pc' := 27) dX11_unseen_24 (fun c24 => ?_) (fun c24 => ?_)
      · 
        refine AW.aload_n (pc' := 31) dX11_unseen_30 rfl ?_
        refine AW.getR (pc' := 34) dX11_unseen_31 ly_0 fX11_60 rfl ?_
        refine AW.iload_n (pc' := 35) dX11_unseen_34 rfl ?_
        refine AW.bipush (pc' := 37) dX11_unseen_35 (by decide) ?_
        refine AW.idiv (pc' := 38) dX11_unseen_37 (by first | assumption | omega | (constructor <;> omega) | (simp only [Int.toNat_natCast]; omega) | exact b2_in _) (by first | assumption | omega | (constructor <;> omega) | (simp only [Int.toNat_natCast]; omega) | exact b2_in _) (by first | assumption | omega | (constructor <;> omega) | (simp only [Int.toNat_natCast]; omega) | exact b2_in _) ?_
        refine AW.iload_n (pc' := 39) dX11_unseen_38 rfl ?_
        refine AW.bipush (pc' := 41) dX11_unseen_39 (by decide) ?_
        refine AW.irem (pc' := 42) dX11_unseen_41 (by first | assumption | omega | (constructor <;> omega) | (simp only [Int.toNat_natCast]; omega) | exact b2_in _) (by first | assumption | omega | (constructor <;> omega) | (simp only [Int.toNat_natCast]; omega) | exact b2_in _) (by first | assumption | omega | (constructor <;> omega) | (simp only [Int.toNat_natCast]; omega) | exact b2_in _) ?_
        refine AW.iload_n (pc' := 43) dX11_unseen_42 rfl ?_
        refine AW.iconst (pc' := 44) dX11_unseen_43 ?_
        refine AW.icmp_ne (tgt := 51) (pc' := 47) dX11_unseen_44 (by first | assumption | omega | (constructor <;> omega) | (simp only [Int.toNat_natCast]; omega) | exact b2_in _) (by first | assumption | omega | (constructor <;> omega) | (simp only [Int.toNat_natCast]; omega) | exact b2_in _) (fun c44 => ?_) (fun c44 => ?_)
        · have c9 : ¬ b = 1 := by omega
          refine AW.iconst (pc' := 52) dX11_unseen_51 ?_
          refine AW.top (b := b2 (b = 1)) (by first | (rw [b2_t (by omega)]) | (rw [b2_f (by omega)])) ?_
          refine AW.invQ3 (pc' := 55) dX11_unseen_52 mlX11_252 mX2_canBe ly_35 rfl (c_X2_canBe (g := b = 1) (dep := dep - 1) (by omega) hI (by first | assumption | omega) (by first | assumption | omega)) (fun h52 s52 => ?_)
          refine AW.iret dX11_unseen_55 ?_ ?_
          · first | (rw [if_pos (by omega)]; done) | (rw [if_neg (by omega)]; done)
          · first | exact EX.rf | exact s52
        · have c9 : b = 1 := by omega
          refine AW.iconst (pc' := 48) dX11_unseen_47 ?_
          refine AW.goto (tgt := 52) dX11_unseen_48 ?_
          refine AW.top (b := b2 (b = 1)) (by first | (rw [b2_t (by omega)]) | (rw [b2_f (by omega)])) ?_
          refine AW.invQ3 (pc' := 55) dX11_unseen_52 mlX11_252 mX2_canBe ly_35 rfl (c_X2_canBe (g := b = 1) (dep := dep - 1) (by omega) hI (by first | assumption | omega) (by first | assumption | omega)) (fun h52 s52 => ?_)
          refine AW.iret dX11_unseen_55 ?_ ?_
          · first | (rw [if_pos (by omega)]; done) | (rw [if_neg (by omega)]; done)
          · first | exact EX.rf | exact s52
      · refine AW.ldc (v := -2000000000) (pc' := 29) dX11_unseen_27 kX11_136 ?_
        refine AW.iret dX11_unseen_29 ?_ ?_
        · first | (rw [if_pos (by omega)]; done) | (rw [if_neg (by omega)]; done)
        · first | exact EX.rf | exact s52
