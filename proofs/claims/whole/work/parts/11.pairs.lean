/-! the class: pairs, means, spread -/
/-- the pair at the places k, k + 1 of an order: counted at its sort -/
def pxS (ru sh gv lv ord : Nat → Int) (k : Nat) (S : Nat → Int × Int) : Nat → Int × Int := fun q =>
  if (ru (ord k).toNat = ru (ord (k + 1)).toNat ∧ 0 ≤ sh (ord k).toNat ∧ 0 ≤ sh (ord (k + 1)).toNat) ∧ sortF sh gv (ord k).toNat (ord (k + 1)).toNat = q then ((S q).1 + 1, (S q).2 + gainF lv (ord k).toNat (ord (k + 1)).toNat) else S q
abbrev paX (h : Hp) : Nat → (Nat → Int × Int) → Nat → Int × Int := pxS (h 13) (h 17) (h 8) (lvX h) (h 18)
/-- the order's places hold runs -/
def PO (n : Int) (ord : Nat → Int) : Prop := ∀ k : Nat, (k : Int) < n → 0 ≤ ord k ∧ ord k < n
abbrev prX (h : Hp) : Nat → Int × Int := lp (paX h) (h 12 10 - 1).toNat 0 (fun _ => (0, 0))
theorem paX_in {h : Hp} (hI : IXa h) (hO : PO (h 12 10) (h 18)) {k : Nat} {S : Nat → Int × Int} (hk : (k : Int) + 1 < h 12 10) (hs : ∀ q : Nat, PI (S q) k) : ∀ q : Nat, PI (paX h k S q) ((k + 1 : Nat) : Int) := by
  intro q
  have o1 := hO k (by omega)
  have o2 := hO (k + 1) (by omega)
  have gg := gainF_in hI.2.2.2 hI.2.2.1 (a := (h 18 k).toNat) (b := (h 18 (k + 1)).toNat) (by omega) (by omega)
  generalize hg : gainF (lvl (h 16) (h 11) (h 14)) (h 18 k).toNat (h 18 (k + 1)).toNat = gv at gg
  obtain ⟨i1, i2, i3, i4⟩ := hs q
  simp only [paX, lvX]
  unfold pxS
  split
  · refine ⟨?_, ?_, ?_, ?_⟩ <;> (try simp only [hg]) <;> omega
  · exact ⟨i1, by omega, i3, i4⟩
theorem prX_in {h : Hp} (hI : IXa h) (hO : PO (h 12 10) (h 18)) (q : Nat) : PI (prX h q) 120 := by
  have g := hI.2.2.2.2.1
  have key : ∀ (n k : Nat) (S : Nat → Int × Int), k + n = (h 12 10 - 1).toNat → (∀ q : Nat, PI (S q) k) → ∀ q : Nat, PI (lp (paX h) n k S q) 120 := by
    intro n
    induction n with
    | zero => intro k S hk hs q; exact ⟨(hs q).1, by have := (hs q).2.1; show (S q).1 ≤ _; omega, (hs q).2.2.1, (hs q).2.2.2⟩
    | succ n ih => intro k S hk hs; unfold lp; exact ih (k + 1) _ (by omega) (paX_in hI hO (by omega) hs)
  exact key _ 0 _ (by omega) (fun _ => ⟨by decide, by decide, by decide, by decide⟩) q
set_option maxRecDepth 100000 in
set_option maxHeartbeats 4000000 in
theorem lp_X2_pairUp0 {K : KT} {X : XT} {dep : Nat} {h : Hp}  : ∀ (n k : Nat) (h1 : Hp), k + n = 4 → EX [36, 37] h h1 → (∀ q : Nat, q < k → h1 36 q = 0 ∧ h1 37 q = 0) → (∀ h2 : Hp, EX [36, 37] h h2 → (∀ q : Nat, q < 4 → h2 36 q = 0 ∧ h2 37 q = 0) → AW K X RX2 cX2_pairUp 5 none dep 27 [some (vR 35), none, none, none, none] [] h2) → AW K X RX2 cX2_pairUp 5 none dep 2 [some (vR 35), some (vI ((k : Int))), none, none, none] [] h1 := by
  intro n
  induction n with
  | zero =>
    intro k h1 hk e1 t1 kk
    refine AW.iload_n (pc' := 3) dX2_pairUp_2 rfl ?_
    refine AW.iconst (pc' := 4) dX2_pairUp_3 ?_
    refine AW.icmp_ge (tgt := 27) (pc' := 7) dX2_pairUp_4 (by first | assumption | omega | (constructor <;> omega) | (simp only [Int.toNat_natCast]; omega) | exact b2_in _) (by first | assumption | omega | (constructor <;> omega) | (simp only [Int.toNat_natCast]; omega) | exact b2_in _) (fun c4 => ?_) (fun c4 => ?_)
    · exact AW.weak (kk h1 e1 (fun q hq => t1 q (by omega))) (by (repeat' first | exact LSub.e | refine LSub.n ?_ | refine LSub.c ?_ ?_) <;> first | rfl | exact congrArg Sum.inl (by first | rfl | omega | omega))
    · omega
  | succ n ih =>
    intro k h1 hk e1 t1 kk
    refine AW.iload_n (pc' := 3) dX2_pairUp_2 rfl ?_
    refine AW.iconst (pc' := 4) dX2_pairUp_3 ?_
    refine AW.icmp_ge (tgt := 27) (pc' := 7) dX2_pairUp_4 (by first | assumption | omega | (constructor <;> omega) | (simp only [Int.toNat_natCast]; omega) | exact b2_in _) (by first | assumption | omega | (constructor <;> omega) | (simp only [Int.toNat_natCast]; omega) | exact b2_in _) (fun c4 => ?_) (fun c4 => ?_)
    · omega
    · refine AW.aload_n (pc' := 8) dX2_pairUp_7 rfl ?_
      refine AW.getR (pc' := 11) dX2_pairUp_8 ly_35 fX2_18 rfl ?_
      refine AW.iload_n (pc' := 12) dX2_pairUp_11 rfl ?_
      refine AW.lconst_0 (pc' := 13) dX2_pairUp_12 ?_
      first | refine AW.lastN (pc' := 14) dX2_pairUp_13 ly_36 (by first | assumption | omega | (constructor <;> omega) | (simp only [Int.toNat_natCast]; omega) | exact b2_in _) (by decide) (by first | assumption | omega | (constructor <;> omega) | (simp only [Int.toNat_natCast]; omega) | exact b2_in _) ?_ | refine AW.last (pc' := 14) dX2_pairUp_13 ly_36 (by first | assumption | omega | (constructor <;> omega) | (simp only [Int.toNat_natCast]; omega) | exact b2_in _) (by first | assumption | omega | (constructor <;> omega) | (simp only [Int.toNat_natCast]; omega) | exact b2_in _) (by decide) (by first | assumption | omega | (constructor <;> omega) | (simp only [Int.toNat_natCast]; omega) | exact b2_in _) ?_
      refine AW.aload_n (pc' := 15) dX2_pairUp_14 rfl ?_
      refine AW.getR (pc' := 18) dX2_pairUp_15 ly_35 fX2_22 rfl ?_
      refine AW.iload_n (pc' := 19) dX2_pairUp_18 rfl ?_
      refine AW.iconst (pc' := 20) dX2_pairUp_19 ?_
      first | refine AW.iastN (pc' := 21) dX2_pairUp_20 ly_37 (by first | assumption | omega | (constructor <;> omega) | (simp only [Int.toNat_natCast]; omega) | exact b2_in _) (by decide) (by first | assumption | omega | (constructor <;> omega) | (simp only [Int.toNat_natCast]; omega) | exact b2_in _) ?_ | refine AW.iast (pc' := 21) dX2_pairUp_20 ly_37 (by first | assumption | omega | (constructor <;> omega) | (simp only [Int.toNat_natCast]; omega) | exact b2_in _) (by first | assumption | omega | (constructor <;> omega) | (simp only [Int.toNat_natCast]; omega) | exact b2_in _) (by decide) (by first | assumption | omega | (constructor <;> omega) | (simp only [Int.toNat_natCast]; omega) | exact b2_in _) ?_
      refine AW.iinc1 (pc' := 24) dX2_pairUp_21 (by decide) rfl ?_
      refine AW.goto (tgt := 2) dX2_pairUp_24 ?_
      exact AW.weak (ih (k + 1) _ (by omega) ((e1.st rfl).st rfl) (fun q hq => by
          by_cases z : q = k
          · subst z; simp [hset_app]
          · have := t1 q (by omega); simp [hset_app, z, this]) kk) (by (repeat' first | exact LSub.e | refine LSub.n ?_ | refine LSub.c ?_ ?_) <;> first | rfl | exact congrArg Sum.inl (by first | rfl | omega | omega))
set_option maxRecDepth 100000 in
set_option maxHeartbeats 4000000 in
theorem lp_X2_pairUp {K : KT} {X : XT} {dep : Nat} {h : Hp} (hI : IXa h) (hO : PO (h 12 10) (h 18)) (hd : 4 ≤ dep) : ∀ (n k : Nat) (S : Nat → Int × Int) (h1 : Hp), k + n = (h 12 10 - 1).toNat → EX [36, 37] h h1 → (∀ q : Nat, q < 4 → h1 37 q = (S q).1 ∧ h1 36 q = (S q).2) → (∀ q : Nat, PI (S q) k) → (∀ h2 : Hp, EX [36, 37] h h2 → (∀ q : Nat, q < 4 → h2 37 q = (lp (paX h) n k S q).1 ∧ h2 36 q = (lp (paX h) n k S q).2) → AW K X RX2 cX2_pairUp 5 none dep 113 [some (vR 35), none, none, none, none] [] h2) → AW K X RX2 cX2_pairUp 5 none dep 29 [some (vR 35), some (vI (((k + 1 : Nat) : Int))), none, none, none] [] h1 := by
  have g6 := hI.2.2.2.1
  have g7 := hI.2.2.2.2.1
  have g8 := hI.2.1.2.1
  intro n
  induction n with
  | zero =>
    intro k S h1 hk e1 t1 i0 kk
    have ek : (((k + 1 : Nat) : Int) - 1).toNat = k := by omega
    have w1 := e1 1 rfl
    have w4 := e1 4 rfl
    have w5 := e1 5 rfl
    have w6 := e1 6 rfl
    have w7 := e1 7 rfl
    have w8 := e1 8 rfl
    have w10 := e1 10 rfl
    have w11 := e1 11 rfl
    have w12 := e1 12 rfl
    have w13 := e1 13 rfl
    have w14 := e1 14 rfl
    have w15 := e1 15 rfl
    have w16 := e1 16 rfl
    have w17 := e1 17 rfl
    have w18 := e1 18 rfl
    have w19 := e1 19 rfl
    have hI_w := hI.ex e1 rfl
    have g12 : h1 12 10 = h 12 10 := by rw [w12]
    refine AW.iload_n (pc' := 30) dX2_pairUp_29 rfl ?_
    refine AW.aload_n (pc' := 31) dX2_pairUp_30 rfl ?_
    refine AW.getR (pc' := 34) dX2_pairUp_31 ly_35 fX2_29 rfl ?_
    refine AW.getI (pc' := 37) dX2_pairUp_34 ly_12 fX2_55 rfl (fun r34 => ?_)
    try simp only [w1, w4, w5, w6, w7, w8, w10, w11, w12, w13, w14, w15, w16, w17, w18, w19, ek] at r34 ⊢
    refine AW.icmp_ge (tgt := 113) (pc' := 40) dX2_pairUp_37 (by first | assumption | omega | (constructor <;> omega) | (simp only [Int.toNat_natCast]; omega) | exact b2_in _) (by first | assumption | omega | (constructor <;> omega) | (simp only [Int.toNat_natCast]; omega) | exact b2_in _) (fun c37 => ?_) (fun c37 => ?_)
    · exact AW.weak (kk h1 e1 t1) (by (repeat' first | exact LSub.e | refine LSub.n ?_ | refine LSub.c ?_ ?_) <;> first | rfl | exact congrArg Sum.inl (by first | rfl | omega | omega))
    · omega
  | succ n ih =>
    intro k S h1 hk e1 t1 i0 kk
    have ek : (((k + 1 : Nat) : Int) - 1).toNat = k := by omega
    have w1 := e1 1 rfl
    have w4 := e1 4 rfl
    have w5 := e1 5 rfl
    have w6 := e1 6 rfl
    have w7 := e1 7 rfl
    have w8 := e1 8 rfl
    have w10 := e1 10 rfl
    have w11 := e1 11 rfl
    have w12 := e1 12 rfl
    have w13 := e1 13 rfl
    have w14 := e1 14 rfl
    have w15 := e1 15 rfl
    have w16 := e1 16 rfl
    have w17 := e1 17 rfl
    have w18 := e1 18 rfl
    have w19 := e1 19 rfl
    have hI_w := hI.ex e1 rfl
    have g12 : h1 12 10 = h 12 10 := by rw [w12]
    have hkr : (k : Int) + 1 < h 12 10 := by omega
    have o1 := hO k (by omega)
    have o2 := hO (k + 1) (by omega)
    have i1 := paX_in hI hO hkr i0
    have gg := gainF_in hI.2.2.2 hI.2.2.1 (a := (h 18 k).toNat) (b := (h 18 (k + 1)).toNat) (by omega) (by omega)
    have sr := sortF_in (h 17) (h 8) (h 18 k).toNat (h 18 (k + 1)).toNat
    refine AW.iload_n (pc' := 30) dX2_pairUp_29 rfl ?_
    refine AW.aload_n (pc' := 31) dX2_pairUp_30 rfl ?_
    refine AW.getR (pc' := 34) dX2_pairUp_31 ly_35 fX2_29 rfl ?_
    refine AW.getI (pc' := 37) dX2_pairUp_34 ly_12 fX2_55 rfl (fun r34 => ?_)
    try simp only [w1, w4, w5, w6, w7, w8, w10, w11, w12, w13, w14, w15, w16, w17, w18, w19, ek] at r34 ⊢
    refine AW.icmp_ge (tgt := 113) (pc' := 40) dX2_pairUp_37 (by first | assumption | omega | (constructor <;> omega) | (simp only [Int.toNat_natCast]; omega) | exact b2_in _) (by first | assumption | omega | (constructor <;> omega) | (simp only [Int.toNat_natCast]; omega) | exact b2_in _) (fun c37 => ?_) (fun c37 => ?_)
    · omega
    · refine AW.aload_n (pc' := 41) dX2_pairUp_40 rfl ?_
      refine AW.getR (pc' := 44) dX2_pairUp_41 ly_35 fX2_29 rfl ?_
      refine AW.getR (pc' := 47) dX2_pairUp_44 ly_12 fX2_59 rfl ?_
      refine AW.iload_n (pc' := 48) dX2_pairUp_47 rfl ?_
      refine AW.iconst (pc' := 49) dX2_pairUp_48 ?_
      refine AW.isub (pc' := 50) dX2_pairUp_49 ?_
      first | refine AW.ialdN (pc' := 51) dX2_pairUp_50 ly_18 (by first | assumption | omega | (constructor <;> omega) | (simp only [Int.toNat_natCast]; omega) | exact b2_in _) (by decide) (fun r50 => ?_) | refine AW.iald (pc' := 51) dX2_pairUp_50 ly_18 (by first | assumption | omega | (constructor <;> omega) | (simp only [Int.toNat_natCast]; omega) | exact b2_in _) (by first | assumption | omega | (constructor <;> omega) | (simp only [Int.toNat_natCast]; omega) | exact b2_in _) (by decide) (fun r50 => ?_)
      try simp only [w1, w4, w5, w6, w7, w8, w10, w11, w12, w13, w14, w15, w16, w17, w18, w19, ek] at r50 ⊢
      refine AW.istore2n (pc' := 52) dX2_pairUp_51 (by decide) rfl ?_
      refine AW.aload_n (pc' := 53) dX2_pairUp_52 rfl ?_
      refine AW.getR (pc' := 56) dX2_pairUp_53 ly_35 fX2_29 rfl ?_
      refine AW.getR (pc' := 59) dX2_pairUp_56 ly_12 fX2_59 rfl ?_
      refine AW.iload_n (pc' := 60) dX2_pairUp_59 rfl ?_
      first | refine AW.ialdN (pc' := 61) dX2_pairUp_60 ly_18 (by first | assumption | omega | (constructor <;> omega) | (simp only [Int.toNat_natCast]; omega) | exact b2_in _) (by decide) (fun r60 => ?_) | refine AW.iald (pc' := 61) dX2_pairUp_60 ly_18 (by first | assumption | omega | (constructor <;> omega) | (simp only [Int.toNat_natCast]; omega) | exact b2_in _) (by first | assumption | omega | (constructor <;> omega) | (simp only [Int.toNat_natCast]; omega) | exact b2_in _) (by decide) (fun r60 => ?_)
      try simp only [w1, w4, w5, w6, w7, w8, w10, w11, w12, w13, w14, w15, w16, w17, w18, w19, ek] at r60 ⊢
      refine AW.istore3n (pc' := 62) dX2_pairUp_61 (by decide) rfl ?_
      refine AW.aload_n (pc' := 63) dX2_pairUp_62 rfl ?_
      refine AW.iload_n (pc' := 64) dX2_pairUp_63 rfl ?_
      refine AW.iload_n (pc' := 65) dX2_pairUp_64 rfl ?_
      refine AW.invV2 (pc' := 68) dX2_pairUp_65 mlX2_62 mX2_isPair ly_35 rfl (c_X2_isPair (dep := dep - 1) (by first | assumption | omega | (constructor <;> omega) | (simp only [Int.toNat_natCast]; omega) | exact b2_in _) (by first | assumption | omega | (constructor <;> omega) | (simp only [Int.toNat_natCast]; omega) | exact b2_in _) (by first | assumption | omega | (constructor <;> omega) | (simp only [Int.toNat_natCast]; omega) | exact b2_in _) (by first | assumption | omega | (constructor <;> omega) | (simp only [Int.toNat_natCast]; omega) | exact b2_in _)) ?_
      try simp only [Int.toNat_natCast, w1, w4, w5, w6, w7, w8, w10, w11, w12, w13, w14, w15, w16, w17, w18, w19, ek]
      refine AW.ifb_eq (tgt := 107) (pc' := 71) dX2_pairUp_68 (fun c68 => ?_) (fun c68 => ?_)
      · refine AW.iinc1 (pc' := 110) dX2_pairUp_107 (by decide) rfl ?_
        refine AW.goto (tgt := 29) dX2_pairUp_110 ?_
        have z : paX h k S = S := by
          funext q
          simp only [paX]
          unfold pxS
          rw [if_neg (fun y => c68 y.1)]
        exact AW.weak (ih (k + 1) (paX h k S) _ (by omega) e1 (by rw [z]; exact t1) i1 kk) (by (repeat' first | exact LSub.e | refine LSub.n ?_ | refine LSub.c ?_ ?_) <;> first | rfl | exact congrArg Sum.inl (by first | rfl | omega | (push_cast; omega)))
      · refine AW.aload_n (pc' := 72) dX2_pairUp_71 rfl ?_
        refine AW.iload_n (pc' := 73) dX2_pairUp_72 rfl ?_
        refine AW.iload_n (pc' := 74) dX2_pairUp_73 rfl ?_
        refine AW.invV2 (pc' := 77) dX2_pairUp_74 mlX2_66 mX2_sortOf ly_35 rfl (c_X2_sortOf (dep := dep - 1) (by first | assumption | omega | (constructor <;> omega) | (simp only [Int.toNat_natCast]; omega) | exact b2_in _) (by first | assumption | omega | (constructor <;> omega) | (simp only [Int.toNat_natCast]; omega) | exact b2_in _) (by first | assumption | omega | (constructor <;> omega) | (simp only [Int.toNat_natCast]; omega) | exact b2_in _) (by first | assumption | omega | (constructor <;> omega) | (simp only [Int.toNat_natCast]; omega) | exact b2_in _)) ?_
        try simp only [Int.toNat_natCast, w1, w4, w5, w6, w7, w8, w10, w11, w12, w13, w14, w15, w16, w17, w18, w19, ek]
        obtain ⟨q0, hq⟩ : ∃ q0 : Nat, sortF (h 17) (h 8) (h 18 k).toNat (h 18 (k + 1)).toNat = (q0 : Int) := ⟨_, (Int.toNat_of_nonneg sr.1).symm⟩
        rw [hq] at sr
        rw [hq]
        have q04 : q0 < 4 := by omega
        have y0 := t1 q0 q04
        have p0 := i0 q0
        unfold PI at p0
        refine AW.istore4 (pc' := 79) dX2_pairUp_77 (by decide) rfl ?_
        refine AW.aload_n (pc' := 80) dX2_pairUp_79 rfl ?_
        refine AW.getR (pc' := 83) dX2_pairUp_80 ly_35 fX2_18 rfl ?_
        refine AW.iload (pc' := 85) dX2_pairUp_83 rfl ?_
        refine AW.dup2 (pc' := 86) dX2_pairUp_85 rfl rfl ?_
        first | refine AW.laldN (pc' := 87) dX2_pairUp_86 ly_36 (by first | assumption | omega | (constructor <;> omega) | (simp only [Int.toNat_natCast]; omega) | exact b2_in _) (by decide) (fun r86 => ?_) | refine AW.lald (pc' := 87) dX2_pairUp_86 ly_36 (by first | assumption | omega | (constructor <;> omega) | (simp only [Int.toNat_natCast]; omega) | exact b2_in _) (by first | assumption | omega | (constructor <;> omega) | (simp only [Int.toNat_natCast]; omega) | exact b2_in _) (by decide) (fun r86 => ?_)
        try simp only [w1, w4, w5, w6, w7, w8, w10, w11, w12, w13, w14, w15, w16, w17, w18, w19, ek] at r86 ⊢
        refine AW.aload_n (pc' := 88) dX2_pairUp_87 rfl ?_
        refine AW.iload_n (pc' := 89) dX2_pairUp_88 rfl ?_
        refine AW.iload_n (pc' := 90) dX2_pairUp_89 rfl ?_
        refine AW.invV2 (pc' := 93) dX2_pairUp_90 mlX2_70 mX2_gained ly_35 rfl (c_X2_gained (dep := dep - 1) (by first | assumption | omega | (constructor <;> omega) | (simp only [Int.toNat_natCast]; omega) | exact b2_in _) (by first | assumption | omega | (constructor <;> omega) | (simp only [Int.toNat_natCast]; omega) | exact b2_in _) (by first | assumption | omega | (constructor <;> omega) | (simp only [Int.toNat_natCast]; omega) | exact b2_in _) (by first | assumption | omega | (constructor <;> omega) | (simp only [Int.toNat_natCast]; omega) | exact b2_in _)) ?_
        try simp only [Int.toNat_natCast, w1, w4, w5, w6, w7, w8, w10, w11, w12, w13, w14, w15, w16, w17, w18, w19, ek]
        refine AW.i2l (pc' := 94) dX2_pairUp_93 (by first | assumption | omega | (constructor <;> omega) | (simp only [Int.toNat_natCast]; omega) | exact b2_in _) ?_
        refine AW.ladd (pc' := 95) dX2_pairUp_94 ?_
        first | refine AW.lastN (pc' := 96) dX2_pairUp_95 ly_36 (by first | assumption | omega | (constructor <;> omega) | (simp only [Int.toNat_natCast]; omega) | exact b2_in _) (by decide) (by first | assumption | omega | (constructor <;> omega) | (simp only [Int.toNat_natCast]; omega) | exact b2_in _) ?_ | refine AW.last (pc' := 96) dX2_pairUp_95 ly_36 (by first | assumption | omega | (constructor <;> omega) | (simp only [Int.toNat_natCast]; omega) | exact b2_in _) (by first | assumption | omega | (constructor <;> omega) | (simp only [Int.toNat_natCast]; omega) | exact b2_in _) (by decide) (by first | assumption | omega | (constructor <;> omega) | (simp only [Int.toNat_natCast]; omega) | exact b2_in _) ?_
        refine AW.aload_n (pc' := 97) dX2_pairUp_96 rfl ?_
        refine AW.getR (pc' := 100) dX2_pairUp_97 ly_35 fX2_22 rfl ?_
        refine AW.iload (pc' := 102) dX2_pairUp_100 rfl ?_
        refine AW.dup2 (pc' := 103) dX2_pairUp_102 rfl rfl ?_
        first | refine AW.ialdN (pc' := 104) dX2_pairUp_103 ly_37 (by first | assumption | omega | (constructor <;> omega) | (simp only [Int.toNat_natCast]; omega) | exact b2_in _) (by decide) (fun r103 => ?_) | refine AW.iald (pc' := 104) dX2_pairUp_103 ly_37 (by first | assumption | omega | (constructor <;> omega) | (simp only [Int.toNat_natCast]; omega) | exact b2_in _) (by first | assumption | omega | (constructor <;> omega) | (simp only [Int.toNat_natCast]; omega) | exact b2_in _) (by decide) (fun r103 => ?_)
        try simp only [w1, w4, w5, w6, w7, w8, w10, w11, w12, w13, w14, w15, w16, w17, w18, w19, ek] at r103 ⊢
        try simp only [hset_app, Nat.reduceEqDiff, false_and, and_false, true_and, and_true, reduceIte] at r103 ⊢
        refine AW.iconst (pc' := 105) dX2_pairUp_104 ?_
        refine AW.iadd (pc' := 106) dX2_pairUp_105 ?_
        first | refine AW.iastN (pc' := 107) dX2_pairUp_106 ly_37 (by first | assumption | omega | (constructor <;> omega) | (simp only [Int.toNat_natCast]; omega) | exact b2_in _) (by decide) (by first | assumption | omega | (constructor <;> omega) | (simp only [Int.toNat_natCast]; omega) | exact b2_in _) ?_ | refine AW.iast (pc' := 107) dX2_pairUp_106 ly_37 (by first | assumption | omega | (constructor <;> omega) | (simp only [Int.toNat_natCast]; omega) | exact b2_in _) (by first | assumption | omega | (constructor <;> omega) | (simp only [Int.toNat_natCast]; omega) | exact b2_in _) (by decide) (by first | assumption | omega | (constructor <;> omega) | (simp only [Int.toNat_natCast]; omega) | exact b2_in _) ?_
        refine AW.iinc1 (pc' := 110) dX2_pairUp_107 (by decide) rfl ?_
        refine AW.goto (tgt := 29) dX2_pairUp_110 ?_
        have z : ∀ q : Nat, paX h k S q = if q = q0 then ((S q).1 + 1, (S q).2 + gainF (lvX h) (h 18 k).toNat (h 18 (k + 1)).toNat) else S q := by
          intro q
          simp only [paX]
          unfold pxS
          by_cases y : q = q0
          · rw [if_pos ⟨c68, by rw [hq, y]⟩, if_pos y]
          · rw [if_neg (fun x => y (by have := x.2; rw [hq] at this; omega)), if_neg y]
        exact AW.weak (ih (k + 1) (paX h k S) _ (by omega) ((e1.st rfl).st rfl) (fun q hq4 => by
            rw [z q]
            have y1 := t1 q hq4
            by_cases y : q = q0
            · subst y; simp [hset_app, y1]
            · simp [hset_app, y, y1]) i1 kk) (by (repeat' first | exact LSub.e | refine LSub.n ?_ | refine LSub.c ?_ ?_) <;> first | rfl | exact congrArg Sum.inl (by first | rfl | omega | (push_cast; omega)))
set_option maxRecDepth 100000 in
set_option maxHeartbeats 4000000 in
theorem c_X2_pairUp {K : KT} {dep : Nat} {h : Hp}  (hd : 4 ≤ dep) (hI : IXa h) (hQ : PO (h 12 10) (h 18)) : AMp K yX2_pairUp cX2_pairUp 5 none dep [vR 35] h none (fun x => EX [36, 37] h x ∧ ∀ q : Nat, q < 4 → x 37 q = (prX h q).1 ∧ x 36 q = (prX h q).2) := by
  refine AM.of (own := RX2) (ls := [some (vR 35), none, none, none, none]) rfl (by decide +kernel) (by exact Nat.le_of_ble_eq_true rfl) rfl (fun hO => ?_)
  have g6 := hI.2.2.2.1
  have g7 := hI.2.2.2.2.1
  have g8 := hI.2.1.2.1
  refine AW.iconst (pc' := 1) dX2_pairUp_0 ?_
  refine AW.istore1n (pc' := 2) dX2_pairUp_1 (by decide) rfl ?_
  refine AW.weak (lp_X2_pairUp0 (h := h) 4 0 _ rfl EX.rf (fun q hq => absurd hq (Nat.not_lt_zero _)) (fun h2 e2 t2 => ?_)) (by (repeat' first | exact LSub.e | refine LSub.n ?_ | refine LSub.c ?_ ?_) <;> first | rfl | exact congrArg Sum.inl (by first | rfl | omega | omega))
  refine AW.iconst (pc' := 28) dX2_pairUp_27 ?_
  refine AW.istore1n (pc' := 29) dX2_pairUp_28 (by decide) rfl ?_
  refine AW.weak (lp_X2_pairUp hI hQ hd (h 12 10 - 1).toNat 0 (fun _ => (0, 0)) _ (by omega) e2 (fun q hq => ⟨(t2 q hq).2, (t2 q hq).1⟩) (fun _ => ⟨by decide, by decide, by decide, by decide⟩) (fun h3 e3 t3 => ?_)) (by (repeat' first | exact LSub.e | refine LSub.n ?_ | refine LSub.c ?_ ?_) <;> first | rfl | exact congrArg Sum.inl (by first | rfl | omega | omega))
  refine AW.vret dX2_pairUp_113 ?_ ?_
  · rfl
  · exact ⟨e3, t3⟩
set_option maxRecDepth 100000 in
set_option maxHeartbeats 4000000 in
theorem c_X2_mean {K : KT} {dep : Nat} {h : Hp} {a : Int} (hd : 1 ≤ dep) (q0 : 0 ≤ a ∧ a ≤ 3) (q1 : PI (h 37 a.toNat, h 36 a.toNat) 120) : AM K yX2_mean cX2_mean 2 (some .int) dep [vR 35, vI a] h (some (vI (meanP (h 37 a.toNat, h 36 a.toNat)))) (h) := by
  refine AM.of (own := RX2) (ls := [some (vR 35), some (vI a)]) rfl (by decide +kernel) (by exact Nat.le_of_ble_eq_true rfl) rfl (fun hO => ?_)
  unfold PI at q1
  simp only at q1
  refine AW.aload_n (pc' := 1) dX2_mean_0 rfl ?_
  refine AW.getR (pc' := 4) dX2_mean_1 ly_35 fX2_22 rfl ?_
  refine AW.iload_n (pc' := 5) dX2_mean_4 rfl ?_
  first | refine AW.ialdN (pc' := 6) dX2_mean_5 ly_37 (by first | assumption | omega | (constructor <;> omega) | (simp only [Int.toNat_natCast]; omega) | exact b2_in _) (by decide) (fun r5 => ?_) | refine AW.iald (pc' := 6) dX2_mean_5 ly_37 (by first | assumption | omega | (constructor <;> omega) | (simp only [Int.toNat_natCast]; omega) | exact b2_in _) (by first | assumption | omega | (constructor <;> omega) | (simp only [Int.toNat_natCast]; omega) | exact b2_in _) (by decide) (fun r5 => ?_)
  refine AW.if_ne (tgt := 14) (pc' := 9) dX2_mean_6 (by first | assumption | omega | (constructor <;> omega) | (simp only [Int.toNat_natCast]; omega) | exact b2_in _) (fun c6 => ?_) (fun c6 => ?_)
  · refine AW.aload_n (pc' := 15) dX2_mean_14 rfl ?_
    refine AW.getR (pc' := 18) dX2_mean_15 ly_35 fX2_18 rfl ?_
    refine AW.iload_n (pc' := 19) dX2_mean_18 rfl ?_
    first | refine AW.laldN (pc' := 20) dX2_mean_19 ly_36 (by first | assumption | omega | (constructor <;> omega) | (simp only [Int.toNat_natCast]; omega) | exact b2_in _) (by decide) (fun r19 => ?_) | refine AW.lald (pc' := 20) dX2_mean_19 ly_36 (by first | assumption | omega | (constructor <;> omega) | (simp only [Int.toNat_natCast]; omega) | exact b2_in _) (by first | assumption | omega | (constructor <;> omega) | (simp only [Int.toNat_natCast]; omega) | exact b2_in _) (by decide) (fun r19 => ?_)
    refine AW.aload_n (pc' := 21) dX2_mean_20 rfl ?_
    refine AW.getR (pc' := 24) dX2_mean_21 ly_35 fX2_22 rfl ?_
    refine AW.iload_n (pc' := 25) dX2_mean_24 rfl ?_
    first | refine AW.ialdN (pc' := 26) dX2_mean_25 ly_37 (by first | assumption | omega | (constructor <;> omega) | (simp only [Int.toNat_natCast]; omega) | exact b2_in _) (by decide) (fun r25 => ?_) | refine AW.iald (pc' := 26) dX2_mean_25 ly_37 (by first | assumption | omega | (constructor <;> omega) | (simp only [Int.toNat_natCast]; omega) | exact b2_in _) (by first | assumption | omega | (constructor <;> omega) | (simp only [Int.toNat_natCast]; omega) | exact b2_in _) (by decide) (fun r25 => ?_)
    refine AW.i2l (pc' := 27) dX2_mean_26 (by first | assumption | omega | (constructor <;> omega) | (simp only [Int.toNat_natCast]; omega) | exact b2_in _) ?_
    refine AW.invN2 (pc' := 30) dX2_mean_27 (by decide +kernel) mX11_cut (c_X11_cut (dep := dep - 1) (by first | assumption | omega | (constructor <;> omega) | (simp only [Int.toNat_natCast]; omega) | exact b2_in _) (by first | assumption | omega | (constructor <;> omega) | (simp only [Int.toNat_natCast]; omega) | exact b2_in _)) ?_
    refine AW.iret dX2_mean_30 ?_ ?_
    · refine congrArg (fun z : Int => (some (vI z) : Option AV)) ?_
      unfold meanP
      (repeat' split) <;> first | rfl | omega
    · rfl
  · refine AW.ldc (v := -2000000000) (pc' := 11) dX2_mean_9 kX2_73 ?_
    refine AW.goto (tgt := 30) dX2_mean_11 ?_
    refine AW.iret dX2_mean_30 ?_ ?_
    · refine congrArg (fun z : Int => (some (vI z) : Option AV)) ?_
      unfold meanP
      (repeat' split) <;> first | rfl | omega
    · rfl
/-- pairs' facts after pairUp -/
def PFX (h x : Hp) : Prop := ∀ q : Nat, q < 4 → x 37 q = (prX h q).1 ∧ x 36 q = (prX h q).2
theorem PFX.pi {h x : Hp} (hI : IXa h) (hQ : PO (h 12 10) (h 18)) (H : PFX h x) {a : Int} (h0 : 0 ≤ a) (h3 : a ≤ 3) : PI (x 37 a.toNat, x 36 a.toNat) 120 ∧ meanP (x 37 a.toNat, x 36 a.toNat) = meanP (prX h a.toNat) ∧ x 37 a.toNat = (prX h a.toNat).1 := by
  obtain ⟨t1, t2⟩ := H a.toNat (by omega)
  rw [t1, t2]
  exact ⟨prX_in hI hQ a.toNat, rfl, rfl⟩
set_option maxRecDepth 100000 in
set_option maxHeartbeats 4000000 in
theorem c_X11_changed {K : KT} {dep : Nat} {h : Hp} {a b : Int} (hd : 5 ≤ dep) (hI : IXa h) (hQ : PO (h 12 10) (h 18)) (q2 : inI a) (q3 : inI b) : AMp K yX11_changed cX11_changed 3 (some .int) dep [vR 0, vI a, vI b] h (some (vI (if (0 ≤ a ∧ a ≤ 3) ∧ 0 ≤ b ∧ b ≤ 1 then (if b = 1 then (prX h a.toNat).1 else meanP (prX h a.toNat)) else -2000000000))) (fun x => EX [36, 37] h x) := by
  refine AM.of (own := RX11) (ls := [some (vR 0), some (vI a), some (vI b)]) rfl (by decide +kernel) (by exact Nat.le_of_ble_eq_true rfl) rfl (fun hO => ?_)
  have g6 := hI.2.2.2.1
  have g7 := hI.2.2.2.2.1
  have g8 := hI.2.1.2.1
  refine AW.iload_n (pc' := 1) dX11_changed_0 rfl ?_
  refine AW.iconst (pc' := 2) dX11_changed_1 ?_
  refine AW.iconst (pc' := 3) dX11_changed_2 ?_
  refine AW.invS3 (pc' := 6) dX11_changed_3 mlX11_89 mX11_within (c_X11_within (dep := dep - 1) (by first | assumption | omega | (constructor <;> omega) | (simp only [Int.toNat_natCast]; omega) | exact b2_in _) (by first | assumption | omega | (constructor <;> omega) | (simp only [Int.toNat_natCast]; omega) | exact b2_in _) (by first | assumption | omega | (constructor <;> omega) | (simp only [Int.toNat_natCast]; omega) | exact b2_in _)) ?_
  refine AW.ifb_eq (tgt := 18) (pc' := 9) dX11_changed_6 (fun c6 => ?_) (fun c6 => ?_)
  · refine AW.ldc (v := -2000000000) (pc' := 20) dX11_changed_18 kX11_136 ?_
    refine AW.iret dX11_changed_20 ?_ ?_
    · refine congrArg (fun z : Int => (some (vI z) : Option AV)) ?_
      first | (rw [p2]; (repeat' split) <;> first | rfl | omega) | (rw [p3]; (repeat' split) <;> first | rfl | omega) | ((repeat' split) <;> first | rfl | omega)
    · first | exact EX.rf | exact e2
  · refine AW.iload_n (pc' := 10) dX11_changed_9 rfl ?_
    refine AW.iconst (pc' := 11) dX11_changed_10 ?_
    refine AW.iconst (pc' := 12) dX11_changed_11 ?_
    refine AW.invS3 (pc' := 15) dX11_changed_12 mlX11_89 mX11_within (c_X11_within (dep := dep - 1) (by first | assumption | omega | (constructor <;> omega) | (simp only [Int.toNat_natCast]; omega) | exact b2_in _) (by first | assumption | omega | (constructor <;> omega) | (simp only [Int.toNat_natCast]; omega) | exact b2_in _) (by first | assumption | omega | (constructor <;> omega) | (simp only [Int.toNat_natCast]; omega) | exact b2_in _)) ?_
    refine AW.ifb_ne (tgt := 21) (pc' := 18) dX11_changed_15 (fun c15 => ?_) (fun c15 => ?_)
    · refine AW.aload_n (pc' := 22) dX11_changed_21 rfl ?_
      refine AW.getR (pc' := 25) dX11_changed_22 ly_0 fX11_60 rfl ?_
      refine AW.invQ0v (pc' := 28) dX11_changed_25 mlX11_230 mX2_pairUp ly_35 rfl (c_X2_pairUp (dep := dep - 1) (by first | assumption | omega | (constructor <;> omega) | (simp only [Int.toNat_natCast]; omega) | exact b2_in _) (by first | assumption | omega | (constructor <;> omega) | (simp only [Int.toNat_natCast]; omega) | exact b2_in _) (by first | assumption | omega | (constructor <;> omega) | (simp only [Int.toNat_natCast]; omega) | exact b2_in _)) (fun h25 s25 => ?_)
      obtain ⟨e2, t2⟩ := s25
      have pf : PFX h h25 := t2
      obtain ⟨p1, p2, p3⟩ := pf.pi hI hQ (a := a) (by omega) (by omega)
      refine AW.iload_n (pc' := 29) dX11_changed_28 rfl ?_
      refine AW.if_ne (tgt := 43) (pc' := 32) dX11_changed_29 (by first | assumption | omega | (constructor <;> omega) | (simp only [Int.toNat_natCast]; omega) | exact b2_in _) (fun c29 => ?_) (fun c29 => ?_)
      · refine AW.aload_n (pc' := 44) dX11_changed_43 rfl ?_
        refine AW.getR (pc' := 47) dX11_changed_44 ly_0 fX11_60 rfl ?_
        refine AW.getR (pc' := 50) dX11_changed_47 ly_35 fX11_236 rfl ?_
        refine AW.iload_n (pc' := 51) dX11_changed_50 rfl ?_
        first | refine AW.ialdN (pc' := 52) dX11_changed_51 ly_37 (by first | assumption | omega | (constructor <;> omega) | (simp only [Int.toNat_natCast]; omega) | exact b2_in _) (by decide) (fun r51 => ?_) | refine AW.iald (pc' := 52) dX11_changed_51 ly_37 (by first | assumption | omega | (constructor <;> omega) | (simp only [Int.toNat_natCast]; omega) | exact b2_in _) (by first | assumption | omega | (constructor <;> omega) | (simp only [Int.toNat_natCast]; omega) | exact b2_in _) (by decide) (fun r51 => ?_)
        refine AW.iret dX11_changed_52 ?_ ?_
        · refine congrArg (fun z : Int => (some (vI z) : Option AV)) ?_
          first | (rw [p2]; (repeat' split) <;> first | rfl | omega) | (rw [p3]; (repeat' split) <;> first | rfl | omega) | ((repeat' split) <;> first | rfl | omega)
        · first | exact EX.rf | exact e2
      · refine AW.aload_n (pc' := 33) dX11_changed_32 rfl ?_
        refine AW.getR (pc' := 36) dX11_changed_33 ly_0 fX11_60 rfl ?_
        refine AW.iload_n (pc' := 37) dX11_changed_36 rfl ?_
        refine AW.invV1 (pc' := 40) dX11_changed_37 mlX11_233 mX2_mean ly_35 rfl (c_X2_mean (dep := dep - 1) (by first | assumption | omega | (constructor <;> omega) | (simp only [Int.toNat_natCast]; omega) | exact b2_in _) (by first | assumption | omega | (constructor <;> omega) | (simp only [Int.toNat_natCast]; omega) | exact b2_in _) (by first | assumption | omega | (constructor <;> omega) | (simp only [Int.toNat_natCast]; omega) | exact b2_in _)) ?_
        refine AW.goto (tgt := 52) dX11_changed_40 ?_
        refine AW.iret dX11_changed_52 ?_ ?_
        · refine congrArg (fun z : Int => (some (vI z) : Option AV)) ?_
          first | (rw [p2]; (repeat' split) <;> first | rfl | omega) | (rw [p3]; (repeat' split) <;> first | rfl | omega) | ((repeat' split) <;> first | rfl | omega)
        · first | exact EX.rf | exact e2
    · refine AW.ldc (v := -2000000000) (pc' := 20) dX11_changed_18 kX11_136 ?_
      refine AW.iret dX11_changed_20 ?_ ?_
      · refine congrArg (fun z : Int => (some (vI z) : Option AV)) ?_
        first | (rw [p2]; (repeat' split) <;> first | rfl | omega) | (rw [p3]; (repeat' split) <;> first | rfl | omega) | ((repeat' split) <;> first | rfl | omega)
      · first | exact EX.rf | exact e2
set_option maxRecDepth 100000 in
set_option maxHeartbeats 4000000 in
theorem c_X2_since {K : KT} {dep : Nat} {h : Hp}  (hd : 2 ≤ dep) (q0 : PI (h 37 0, h 36 0) 120) (q2 : PI (h 37 2, h 36 2) 120) : AM K yX2_since cX2_since 1 (some .int) dep [vR 35] h (some (vI (lessV (meanP (h 37 0, h 36 0)) (meanP (h 37 2, h 36 2))))) (h) := by
  refine AM.of (own := RX2) (ls := [some (vR 35)]) rfl (by decide +kernel) (by exact Nat.le_of_ble_eq_true rfl) rfl (fun hO => ?_)
  have m0 := meanP_in q0 (by decide)
  have m2 := meanP_in q2 (by decide)
  refine AW.aload_n (pc' := 1) dX2_since_0 rfl ?_
  refine AW.iconst (pc' := 2) dX2_since_1 ?_
  refine AW.invV1 (pc' := 5) dX2_since_2 mlX2_74 mX2_mean ly_35 rfl (c_X2_mean (dep := dep - 1) (by first | assumption | omega | (constructor <;> omega) | (simp only [Int.toNat_natCast]; omega) | exact b2_in _) (by first | assumption | omega | (constructor <;> omega) | (simp only [Int.toNat_natCast]; omega) | exact b2_in _) (by first | assumption | omega | (constructor <;> omega) | (simp only [Int.toNat_natCast]; omega) | exact b2_in _)) ?_
  try simp only [Int.toNat_natCast, Int.reduceToNat]
  refine AW.aload_n (pc' := 6) dX2_since_5 rfl ?_
  refine AW.iconst (pc' := 7) dX2_since_6 ?_
  refine AW.invV1 (pc' := 10) dX2_since_7 mlX2_74 mX2_mean ly_35 rfl (c_X2_mean (dep := dep - 1) (by first | assumption | omega | (constructor <;> omega) | (simp only [Int.toNat_natCast]; omega) | exact b2_in _) (by first | assumption | omega | (constructor <;> omega) | (simp only [Int.toNat_natCast]; omega) | exact b2_in _) (by first | assumption | omega | (constructor <;> omega) | (simp only [Int.toNat_natCast]; omega) | exact b2_in _)) ?_
  try simp only [Int.toNat_natCast, Int.reduceToNat]
  refine AW.invN2 (pc' := 13) dX2_since_10 (by decide +kernel) mX11_less (c_X11_less (dep := dep - 1) (by first | assumption | omega | (constructor <;> omega) | (simp only [Int.toNat_natCast]; omega) | exact b2_in _) (by first | assumption | omega | (constructor <;> omega) | (simp only [Int.toNat_natCast]; omega) | exact b2_in _)) ?_
  try simp only [Int.toNat_natCast, Int.reduceToNat]
  refine AW.iret dX2_since_13 ?_ ?_
  · refine congrArg (fun z : Int => (some (vI z) : Option AV)) ?_
    unfold lessV
    (repeat' split) <;> first | rfl | omega
  · rfl
def spX (h : Hp) (mean : Int) (k : Nat) (s : Int) : Int := if (h 13 (h 18 k).toNat = h 13 (h 18 (k + 1)).toNat ∧ 0 ≤ h 17 (h 18 k).toNat ∧ 0 ≤ h 17 (h 18 (k + 1)).toNat) ∧ sortF (h 17) (h 8) (h 18 k).toNat (h 18 (k + 1)).toNat = 2 then s + (gainF (lvX h) (h 18 k).toNat (h 18 (k + 1)).toNat - mean) * (gainF (lvX h) (h 18 k).toNat (h 18 (k + 1)).toNat - mean) else s
theorem sq_in {d : Int} (h1 : -20000000 ≤ d) (h2 : d ≤ 20000000) : 0 ≤ d * d ∧ d * d ≤ 400000000000000 := by
  rcases Int.le_total 0 d with h | h
  · have := mul_in (A := 20000000) (B := 20000000) (by omega : -20000000 ≤ d) h2 h h2 (by decide)
    exact ⟨Int.mul_nonneg h h, by omega⟩
  · have := mul_in (A := 20000000) (B := 20000000) (by omega : -20000000 ≤ -d) (by omega) (by omega : 0 ≤ -d) (by omega) (by decide)
    rw [Int.neg_mul_neg] at this
    exact ⟨Int.mul_nonneg_of_nonpos_of_nonpos h h, by omega⟩
set_option maxRecDepth 100000 in
set_option maxHeartbeats 4000000 in
theorem lp_X2_spread {K : KT} {X : XT} {dep : Nat} {h : Hp} {mean : Int} (hI : IXa h) (hQ : PO (h 12 10) (h 18)) (hm : -12000000 ≤ mean ∧ mean ≤ 1000 ∨ mean = -2000000000) (hd : 4 ≤ dep) : ∀ (n k : Nat) (s : Int), k + n = (h 12 10 - 1).toNat → (∀ m : Nat, True) → AW K X RX2 cX2_spread 10 (some .long) dep 100 [some (vR 35), some (vL (mean)), none, some (vL (lp (spX h mean) n k s)), none, none, none, none, none, none] [] h → AW K X RX2 cX2_spread 10 (some .long) dep 12 [some (vR 35), some (vL (mean)), none, some (vL (s)), none, some (vI (((k + 1 : Nat) : Int))), none, none, none, none] [] h := by
  have g6 := hI.2.2.2.1
  have g7 := hI.2.2.2.2.1
  have g8 := hI.2.1.2.1
  intro n
  induction n with
  | zero =>
    intro k s hk e1 kk
    have ek : (((k + 1 : Nat) : Int) - 1).toNat = k := by omega
    refine AW.iload (pc' := 14) dX2_spread_12 rfl ?_
    refine AW.aload_n (pc' := 15) dX2_spread_14 rfl ?_
    refine AW.getR (pc' := 18) dX2_spread_15 ly_35 fX2_29 rfl ?_
    refine AW.getI (pc' := 21) dX2_spread_18 ly_12 fX2_55 rfl (fun r18 => ?_)
    try simp only [ek] at r18 ⊢
    refine AW.icmp_ge (tgt := 100) (pc' := 24) dX2_spread_21 (by first | assumption | omega | (constructor <;> omega) | (simp only [Int.toNat_natCast]; omega) | exact b2_in _) (by first | assumption | omega | (constructor <;> omega) | (simp only [Int.toNat_natCast]; omega) | exact b2_in _) (fun c21 => ?_) (fun c21 => ?_)
    · exact AW.weak kk (by (repeat' first | exact LSub.e | refine LSub.n ?_ | refine LSub.c ?_ ?_) <;> first | rfl | exact congrArg Sum.inl (by first | rfl | omega | omega))
    · omega
  | succ n ih =>
    intro k s hk e1 kk
    have ek : (((k + 1 : Nat) : Int) - 1).toNat = k := by omega
    have hkr : (k : Int) + 1 < h 12 10 := by omega
    have o1 := hQ k (by omega)
    have o2 := hQ (k + 1) (by omega)
    have gg := gainF_in hI.2.2.2 hI.2.2.1 (a := (h 18 k).toNat) (b := (h 18 (k + 1)).toNat) (by omega) (by omega)
    have sr := sortF_in (h 17) (h 8) (h 18 k).toNat (h 18 (k + 1)).toNat
    refine AW.iload (pc' := 14) dX2_spread_12 rfl ?_
    refine AW.aload_n (pc' := 15) dX2_spread_14 rfl ?_
    refine AW.getR (pc' := 18) dX2_spread_15 ly_35 fX2_29 rfl ?_
    refine AW.getI (pc' := 21) dX2_spread_18 ly_12 fX2_55 rfl (fun r18 => ?_)
    try simp only [ek] at r18 ⊢
    refine AW.icmp_ge (tgt := 100) (pc' := 24) dX2_spread_21 (by first | assumption | omega | (constructor <;> omega) | (simp only [Int.toNat_natCast]; omega) | exact b2_in _) (by first | assumption | omega | (constructor <;> omega) | (simp only [Int.toNat_natCast]; omega) | exact b2_in _) (fun c21 => ?_) (fun c21 => ?_)
    · omega
    · refine AW.aload_n (pc' := 25) dX2_spread_24 rfl ?_
      refine AW.getR (pc' := 28) dX2_spread_25 ly_35 fX2_29 rfl ?_
      refine AW.getR (pc' := 31) dX2_spread_28 ly_12 fX2_59 rfl ?_
      refine AW.iload (pc' := 33) dX2_spread_31 rfl ?_
      refine AW.iconst (pc' := 34) dX2_spread_33 ?_
      refine AW.isub (pc' := 35) dX2_spread_34 ?_
      first | refine AW.ialdN (pc' := 36) dX2_spread_35 ly_18 (by first | assumption | omega | (constructor <;> omega) | (simp only [Int.toNat_natCast]; omega) | exact b2_in _) (by decide) (fun r35 => ?_) | refine AW.iald (pc' := 36) dX2_spread_35 ly_18 (by first | assumption | omega | (constructor <;> omega) | (simp only [Int.toNat_natCast]; omega) | exact b2_in _) (by first | assumption | omega | (constructor <;> omega) | (simp only [Int.toNat_natCast]; omega) | exact b2_in _) (by decide) (fun r35 => ?_)
      try simp only [ek] at r35 ⊢
      refine AW.istore6 (pc' := 38) dX2_spread_36 (by decide) rfl ?_
      refine AW.aload_n (pc' := 39) dX2_spread_38 rfl ?_
      refine AW.getR (pc' := 42) dX2_spread_39 ly_35 fX2_29 rfl ?_
      refine AW.getR (pc' := 45) dX2_spread_42 ly_12 fX2_59 rfl ?_
      refine AW.iload (pc' := 47) dX2_spread_45 rfl ?_
      first | refine AW.ialdN (pc' := 48) dX2_spread_47 ly_18 (by first | assumption | omega | (constructor <;> omega) | (simp only [Int.toNat_natCast]; omega) | exact b2_in _) (by decide) (fun r47 => ?_) | refine AW.iald (pc' := 48) dX2_spread_47 ly_18 (by first | assumption | omega | (constructor <;> omega) | (simp only [Int.toNat_natCast]; omega) | exact b2_in _) (by first | assumption | omega | (constructor <;> omega) | (simp only [Int.toNat_natCast]; omega) | exact b2_in _) (by decide) (fun r47 => ?_)
      try simp only [ek] at r47 ⊢
      refine AW.istore7 (pc' := 50) dX2_spread_48 (by decide) rfl ?_
      refine AW.aload_n (pc' := 51) dX2_spread_50 rfl ?_
      refine AW.iload (pc' := 53) dX2_spread_51 rfl ?_
      refine AW.iload (pc' := 55) dX2_spread_53 rfl ?_
      refine AW.invV2 (pc' := 58) dX2_spread_55 mlX2_62 mX2_isPair ly_35 rfl (c_X2_isPair (dep := dep - 1) (by first | assumption | omega | (constructor <;> omega) | (simp only [Int.toNat_natCast]; omega) | exact b2_in _) (by first | assumption | omega | (constructor <;> omega) | (simp only [Int.toNat_natCast]; omega) | exact b2_in _) (by first | assumption | omega | (constructor <;> omega) | (simp only [Int.toNat_natCast]; omega) | exact b2_in _) (by first | assumption | omega | (constructor <;> omega) | (simp only [Int.toNat_natCast]; omega) | exact b2_in _)) ?_
      try simp only [Int.toNat_natCast, ek]
      refine AW.ifb_eq (tgt := 94) (pc' := 61) dX2_spread_58 (fun c58 => ?_) (fun c58 => ?_)
      · refine AW.iinc5 (pc' := 97) dX2_spread_94 (by decide) rfl ?_
        refine AW.goto (tgt := 12) dX2_spread_97 ?_
        exact AW.weak (ih (k + 1) (spX h mean k s) (by omega) e1 kk) (by (repeat' first | exact LSub.e | refine LSub.n ?_ | refine LSub.c ?_ ?_) <;> first | rfl | exact congrArg Sum.inl (by push_cast; omega) | exact congrArg (fun z : Int => (vL z : AV)) (by unfold spX; rw [if_neg (fun y => c58 y.1)]))
      · refine AW.aload_n (pc' := 62) dX2_spread_61 rfl ?_
        refine AW.iload (pc' := 64) dX2_spread_62 rfl ?_
        refine AW.iload (pc' := 66) dX2_spread_64 rfl ?_
        refine AW.invV2 (pc' := 69) dX2_spread_66 mlX2_66 mX2_sortOf ly_35 rfl (c_X2_sortOf (dep := dep - 1) (by first | assumption | omega | (constructor <;> omega) | (simp only [Int.toNat_natCast]; omega) | exact b2_in _) (by first | assumption | omega | (constructor <;> omega) | (simp only [Int.toNat_natCast]; omega) | exact b2_in _) (by first | assumption | omega | (constructor <;> omega) | (simp only [Int.toNat_natCast]; omega) | exact b2_in _) (by first | assumption | omega | (constructor <;> omega) | (simp only [Int.toNat_natCast]; omega) | exact b2_in _)) ?_
        try simp only [Int.toNat_natCast, ek]
        refine AW.iconst (pc' := 70) dX2_spread_69 ?_
        refine AW.icmp_ne (tgt := 94) (pc' := 73) dX2_spread_70 (by first | assumption | omega | (constructor <;> omega) | (simp only [Int.toNat_natCast]; omega) | exact b2_in _) (by first | assumption | omega | (constructor <;> omega) | (simp only [Int.toNat_natCast]; omega) | exact b2_in _) (fun c70 => ?_) (fun c70 => ?_)
        · refine AW.iinc5 (pc' := 97) dX2_spread_94 (by decide) rfl ?_
          refine AW.goto (tgt := 12) dX2_spread_97 ?_
          exact AW.weak (ih (k + 1) (spX h mean k s) (by omega) e1 kk) (by (repeat' first | exact LSub.e | refine LSub.n ?_ | refine LSub.c ?_ ?_) <;> first | rfl | exact congrArg Sum.inl (by push_cast; omega) | exact congrArg (fun z : Int => (vL z : AV)) (by unfold spX; rw [if_neg (fun y => c70 y.2)]))
        · refine AW.aload_n (pc' := 74) dX2_spread_73 rfl ?_
          refine AW.iload (pc' := 76) dX2_spread_74 rfl ?_
          refine AW.iload (pc' := 78) dX2_spread_76 rfl ?_
          refine AW.invV2 (pc' := 81) dX2_spread_78 mlX2_70 mX2_gained ly_35 rfl (c_X2_gained (dep := dep - 1) (by first | assumption | omega | (constructor <;> omega) | (simp only [Int.toNat_natCast]; omega) | exact b2_in _) (by first | assumption | omega | (constructor <;> omega) | (simp only [Int.toNat_natCast]; omega) | exact b2_in _) (by first | assumption | omega | (constructor <;> omega) | (simp only [Int.toNat_natCast]; omega) | exact b2_in _) (by first | assumption | omega | (constructor <;> omega) | (simp only [Int.toNat_natCast]; omega) | exact b2_in _)) ?_
          try simp only [Int.toNat_natCast, ek]
          refine AW.i2l (pc' := 82) dX2_spread_81 (by first | assumption | omega | (constructor <;> omega) | (simp only [Int.toNat_natCast]; omega) | exact b2_in _) ?_
          refine AW.lload_n (pc' := 83) dX2_spread_82 rfl ?_
          refine AW.lsub (pc' := 84) dX2_spread_83 ?_
          refine AW.lstore8 (pc' := 86) dX2_spread_84 (by decide) rfl ?_
          refine AW.lload_n (pc' := 87) dX2_spread_86 rfl ?_
          refine AW.lload (pc' := 89) dX2_spread_87 rfl ?_
          refine AW.lload (pc' := 91) dX2_spread_89 rfl ?_
          refine AW.lmul (pc' := 92) dX2_spread_91 ?_
          refine AW.ladd (pc' := 93) dX2_spread_92 ?_
          refine AW.lstore3n (pc' := 94) dX2_spread_93 (by decide) rfl ?_
          refine AW.iinc5 (pc' := 97) dX2_spread_94 (by decide) rfl ?_
          refine AW.goto (tgt := 12) dX2_spread_97 ?_
          exact AW.weak (ih (k + 1) (spX h mean k s) (by omega) e1 kk) (by (repeat' first | exact LSub.e | refine LSub.n ?_ | refine LSub.c ?_ ?_) <;> first | rfl | exact congrArg Sum.inl (by push_cast; omega) | exact congrArg (fun z : Int => (vL z : AV)) (by unfold spX; rw [if_pos ⟨c58, c70⟩]))
