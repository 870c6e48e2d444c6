/-! the class: gain; hidden levels -/
set_option maxRecDepth 100000 in
set_option maxHeartbeats 4000000 in
theorem c_X11_gain {K : KT} {dep : Nat} {h : Hp} {a : Int} (hd : 6 ≤ dep) (hI : IXa h) (hQ1 : PO (h 12 10) (h 18)) (hQ2 : PO (h 12 10) (h 19)) (q3 : inI a) : AMp K yX11_gain cX11_gain 2 (some .int) dep [vR 0, vI a] h (some (vI (if a = 0 then sinX h else if a = 1 then meanP (irF h) else if a = 2 then lessV (meanP (irF h)) (sinX h) else if a = 3 then bdF False (sinX h) (meanP (irF h)) (meanP (prX h 1)) else if a = 4 then bdF True (sinX h) (meanP (irF h)) (meanP (prX h 1)) else -2000000000))) (fun x => EX [36, 37, 39] h x) := by
  refine AM.of (own := RX11) (ls := [some (vR 0), some (vI a)]) rfl (by decide +kernel) (by exact Nat.le_of_ble_eq_true rfl) rfl (fun hO => ?_)
  have g6 := hI.2.2.2.1
  have g7 := hI.2.2.2.2.1
  have g8 := hI.2.1.2.1
  have hQ := hQ1
  have mr := meanP_in (irF_in hI hQ2) (by decide)
  have m0 := meanP_in (prX_in hI hQ1 0) (by decide)
  have m2 := meanP_in (prX_in hI hQ1 2) (by decide)
  have ls : -30000000 ≤ lessV (meanP (prX h 0)) (meanP (prX h 2)) ∧ lessV (meanP (prX h 0)) (meanP (prX h 2)) ≤ 30000000 ∨ lessV (meanP (prX h 0)) (meanP (prX h 2)) = -2000000000 := by unfold lessV; split <;> omega
  refine AW.aload_n (pc' := 1) dX11_gain_0 rfl ?_
  refine AW.getR (pc' := 4) dX11_gain_1 ly_0 fX11_60 rfl ?_
  refine AW.invQ0v (pc' := 7) dX11_gain_4 mlX11_230 mX2_pairUp ly_35 rfl (c_X2_pairUp (dep := dep - 1) (by first | assumption | omega | (constructor <;> omega) | (simp only [Int.toNat_natCast]; omega) | exact b2_in _) (by first | assumption | omega | (constructor <;> omega) | (simp only [Int.toNat_natCast]; omega) | exact b2_in _) (by first | assumption | omega | (constructor <;> omega) | (simp only [Int.toNat_natCast]; omega) | exact b2_in _)) (fun h4 s4 => ?_)
  try simp only [Int.toNat_natCast, Int.reduceToNat]
  obtain ⟨e2, t2⟩ := s4
  have pf : PFX h h4 := t2
  have pi0 : PI (h4 37 0, h4 36 0) 120 ∧ meanP (h4 37 0, h4 36 0) = meanP (prX h 0) := by have := pf.pi hI hQ (a := 0) (by omega) (by omega); simpa using ⟨this.1, this.2.1⟩
  have pi1 : PI (h4 37 1, h4 36 1) 120 ∧ meanP (h4 37 1, h4 36 1) = meanP (prX h 1) := by have := pf.pi hI hQ (a := 1) (by omega) (by omega); simpa using ⟨this.1, this.2.1⟩
  have pi2 : PI (h4 37 2, h4 36 2) 120 ∧ meanP (h4 37 2, h4 36 2) = meanP (prX h 2) := by have := pf.pi hI hQ (a := 2) (by omega) (by omega); simpa using ⟨this.1, this.2.1⟩
  have hI4 := hI.ex e2 rfl
  have hQ4 : PO (h4 12 10) (h4 19) := by rw [e2 12 rfl, e2 19 rfl]; exact hQ2
  have z4 := irF_ex e2 rfl
  have e0 : EX [36, 37, 39] h h4 := e2.wd (fun k hk => by simp at hk ⊢; omega)
  refine AW.iload_n (pc' := 8) dX11_gain_7 rfl ?_
  by_cases s8_0 : a = 0
  · refine AW.top s8_0 ?_
    refine AW.tableIn (tgt := 44) (off := 36) dX11_gain_8 (by decide) (by decide) (by decide) rfl ?_
    refine AW.aload_n (pc' := 45) dX11_gain_44 rfl ?_
    refine AW.getR (pc' := 48) dX11_gain_45 ly_0 fX11_60 rfl ?_
    refine AW.invV0 (pc' := 51) dX11_gain_48 mlX11_239 mX2_since ly_35 rfl (c_X2_since (dep := dep - 1) (by first | exact hI4 | exact hQ4 | exact pi0.1 | exact pi1.1 | exact pi2.1 | omega) (by first | exact hI4 | exact hQ4 | exact pi0.1 | exact pi1.1 | exact pi2.1 | omega) (by first | exact hI4 | exact hQ4 | exact pi0.1 | exact pi1.1 | exact pi2.1 | omega)) ?_
    try simp only [Int.toNat_natCast, Int.reduceToNat]
    refine AW.iret dX11_gain_51 ?_ ?_
    · refine congrArg (fun z : Int => (some (vI z) : Option AV)) ?_
      simp only [sinX, *]
      first | rfl | ((repeat' split) <;> first | rfl | omega)
    · first | exact e0 | exact e64 | exact e56 | exact e83 | exact e92
  by_cases s8_1 : a = 1
  · refine AW.top s8_1 ?_
    refine AW.tableIn (tgt := 52) (off := 44) dX11_gain_8 (by decide) (by decide) (by decide) rfl ?_
    refine AW.aload_n (pc' := 53) dX11_gain_52 rfl ?_
    refine AW.getR (pc' := 56) dX11_gain_53 ly_0 fX11_60 rfl ?_
    refine AW.invQ0 (pc' := 59) dX11_gain_56 mlX11_242 mX2_inRaces ly_35 rfl (c_X2_inRaces (dep := dep - 1) (by first | exact hI4 | exact hQ4 | exact pi0.1 | exact pi1.1 | exact pi2.1 | omega) (by first | exact hI4 | exact hQ4 | exact pi0.1 | exact pi1.1 | exact pi2.1 | omega) (by first | exact hI4 | exact hQ4 | exact pi0.1 | exact pi1.1 | exact pi2.1 | omega)) (fun h56 s56 => ?_)
    try simp only [Int.toNat_natCast, Int.reduceToNat]
    have e56 : EX [36, 37, 39] h h56 := e0.tr (s56.wd (fun k hk => by simp at hk ⊢; omega))
    refine AW.iret dX11_gain_59 ?_ ?_
    · refine congrArg (fun z : Int => (some (vI z) : Option AV)) ?_
      simp only [sinX, *]
      first | rfl | ((repeat' split) <;> first | rfl | omega)
    · first | exact e0 | exact e64 | exact e56 | exact e83 | exact e92
  by_cases s8_2 : a = 2
  · refine AW.top s8_2 ?_
    refine AW.tableIn (tgt := 60) (off := 52) dX11_gain_8 (by decide) (by decide) (by decide) rfl ?_
    skip
    refine AW.aload_n (pc' := 61) dX11_gain_60 rfl ?_
    refine AW.getR (pc' := 64) dX11_gain_61 ly_0 fX11_60 rfl ?_
    refine AW.invQ0 (pc' := 67) dX11_gain_64 mlX11_242 mX2_inRaces ly_35 rfl (c_X2_inRaces (dep := dep - 1) (by first | exact hI4 | exact hQ4 | exact pi0.1 | exact pi1.1 | exact pi2.1 | omega) (by first | exact hI4 | exact hQ4 | exact pi0.1 | exact pi1.1 | exact pi2.1 | omega) (by first | exact hI4 | exact hQ4 | exact pi0.1 | exact pi1.1 | exact pi2.1 | omega)) (fun h64 s64 => ?_)
    try simp only [Int.toNat_natCast, Int.reduceToNat]
    have e64 : EX [36, 37, 39] h h64 := e0.tr (s64.wd (fun k hk => by simp at hk ⊢; omega))
    have q37 := s64 37 rfl
    have q36 := s64 36 rfl
    refine AW.aload_n (pc' := 68) dX11_gain_67 rfl ?_
    refine AW.getR (pc' := 71) dX11_gain_68 ly_0 fX11_60 rfl ?_
    refine AW.invV0 (pc' := 74) dX11_gain_71 mlX11_239 mX2_since ly_35 rfl (c_X2_since (dep := dep - 1) (by omega) (by rw [q37, q36]; exact pi0.1) (by rw [q37, q36]; exact pi2.1)) ?_
    try simp only [Int.toNat_natCast, Int.reduceToNat]
    try simp only [q37, q36, pi0.2, pi1.2, pi2.2, z4]
    refine AW.invS2 (pc' := 77) dX11_gain_74 mlX11_245 mX11_less (c_X11_less (dep := dep - 1) (by first | assumption | omega | (constructor <;> omega) | (simp only [Int.toNat_natCast]; omega) | exact b2_in _) (by first | assumption | omega | (constructor <;> omega) | (simp only [Int.toNat_natCast]; omega) | exact b2_in _)) ?_
    try simp only [Int.toNat_natCast, Int.reduceToNat]
    refine AW.iret dX11_gain_77 ?_ ?_
    · refine congrArg (fun z : Int => (some (vI z) : Option AV)) ?_
      simp only [sinX, *]
      first | rfl | ((repeat' split) <;> first | rfl | omega)
    · first | exact e0 | exact e64 | exact e56 | exact e83 | exact e92
  by_cases s8_3 : a = 3
  · refine AW.top s8_3 ?_
    refine AW.tableIn (tgt := 78) (off := 70) dX11_gain_8 (by decide) (by decide) (by decide) rfl ?_
    refine AW.aload_n (pc' := 79) dX11_gain_78 rfl ?_
    refine AW.getR (pc' := 82) dX11_gain_79 ly_0 fX11_60 rfl ?_
    refine AW.iconst (pc' := 83) dX11_gain_82 ?_
    refine AW.invQ1 (pc' := 86) dX11_gain_83 mlX11_248 mX2_bound ly_35 rfl (c_X2_bound (P := False) (dP := instDecidableFalse) (dep := dep - 1) (by first | exact hI4 | exact hQ4 | exact pi0.1 | exact pi1.1 | exact pi2.1 | omega) (by first | exact hI4 | exact hQ4 | exact pi0.1 | exact pi1.1 | exact pi2.1 | omega) (by first | exact hI4 | exact hQ4 | exact pi0.1 | exact pi1.1 | exact pi2.1 | omega) (by first | exact hI4 | exact hQ4 | exact pi0.1 | exact pi1.1 | exact pi2.1 | omega) (by first | exact hI4 | exact hQ4 | exact pi0.1 | exact pi1.1 | exact pi2.1 | omega) (by first | exact hI4 | exact hQ4 | exact pi0.1 | exact pi1.1 | exact pi2.1 | omega)) (fun h83 s83 => ?_)
    try simp only [Int.toNat_natCast, Int.reduceToNat]
    have e83 : EX [36, 37, 39] h h83 := e0.tr (s83.wd (fun k hk => by simp at hk ⊢; omega))
    refine AW.iret dX11_gain_86 ?_ ?_
    · refine congrArg (fun z : Int => (some (vI z) : Option AV)) ?_
      simp only [sinX, *]
      first | rfl | ((repeat' split) <;> first | rfl | omega)
    · first | exact e0 | exact e64 | exact e56 | exact e83 | exact e92
  by_cases s8_4 : a = 4
  · refine AW.top s8_4 ?_
    refine AW.tableIn (tgt := 87) (off := 79) dX11_gain_8 (by decide) (by decide) (by decide) rfl ?_
    refine AW.aload_n (pc' := 88) dX11_gain_87 rfl ?_
    refine AW.getR (pc' := 91) dX11_gain_88 ly_0 fX11_60 rfl ?_
    refine AW.iconst (pc' := 92) dX11_gain_91 ?_
    refine AW.invQ1 (pc' := 95) dX11_gain_92 mlX11_248 mX2_bound ly_35 rfl (c_X2_bound (P := True) (dP := instDecidableTrue) (dep := dep - 1) (by first | exact hI4 | exact hQ4 | exact pi0.1 | exact pi1.1 | exact pi2.1 | omega) (by first | exact hI4 | exact hQ4 | exact pi0.1 | exact pi1.1 | exact pi2.1 | omega) (by first | exact hI4 | exact hQ4 | exact pi0.1 | exact pi1.1 | exact pi2.1 | omega) (by first | exact hI4 | exact hQ4 | exact pi0.1 | exact pi1.1 | exact pi2.1 | omega) (by first | exact hI4 | exact hQ4 | exact pi0.1 | exact pi1.1 | exact pi2.1 | omega) (by first | exact hI4 | exact hQ4 | exact pi0.1 | exact pi1.1 | exact pi2.1 | omega)) (fun h92 s92 => ?_)
    try simp only [Int.toNat_natCast, Int.reduceToNat]
    have e92 : EX [36, 37, 39] h h92 := e0.tr (s92.wd (fun k hk => by simp at hk ⊢; omega))
    refine AW.iret dX11_gain_95 ?_ ?_
    · refine congrArg (fun z : Int => (some (vI z) : Option AV)) ?_
      simp only [sinX, *]
      first | rfl | ((repeat' split) <;> first | rfl | omega)
    · first | exact e0 | exact e64 | exact e56 | exact e83 | exact e92
  refine AW.tableOut (tgt := 96) dX11_gain_8 (by first | assumption | omega | (constructor <;> omega) | (simp only [Int.toNat_natCast]; omega) | exact b2_in _) (by omega) ?_
  refine AW.ldc (v := -2000000000) (pc' := 98) dX11_gain_96 kX11_136 ?_
  refine AW.iret dX11_gain_98 ?_ ?_
  · refine congrArg (fun z : Int => (some (vI z) : Option AV)) ?_
    simp only [sinX, *]
    first | rfl | ((repeat' split) <;> first | rfl | omega)
  · first | exact e0 | exact e64 | exact e56 | exact e83 | exact e92
def hdP (row : Nat → Int) (lv : Int) : Nat → Nat
  | 0 => 0
  | k + 1 => if lv < row k then hdP row lv k else k + 1
theorem hdP_le (row : Nat → Int) (lv : Int) : ∀ k : Nat, hdP row lv k ≤ k
  | 0 => Nat.le_refl _
  | k + 1 => by
    unfold hdP
    split
    · have := hdP_le row lv k; omega
    · exact Nat.le_refl _
theorem hdP_t {row : Nat → Int} {lv : Int} {k : Nat} (h : lv < row k) : hdP row lv (k + 1) = hdP row lv k := by
  conv => lhs; unfold hdP
  rw [if_pos h]
theorem hdP_f {row : Nat → Int} {lv : Int} {k : Nat} (h : ¬ lv < row k) : hdP row lv (k + 1) = k + 1 := by
  conv => lhs; unfold hdP
  rw [if_neg h]
/-- the row behind the coming of a level among the m that stand rising -/
def hdR (row : Nat → Int) (m : Nat) (lv : Int) (j : Nat) : Int := if j = hdP row lv m then lv else if hdP row lv m < j ∧ j ≤ m then row (j - 1) else row j
set_option maxRecDepth 100000 in
set_option maxHeartbeats 4000000 in
theorem lp_X2_hide {K : KT} {X : XT} {dep : Nat} {h : Hp} {a b : Int} (q0 : 0 ≤ a ∧ a < 12) (q1 : inI b)  : ∀ (k : Nat) (h1 : Hp), (k : Int) ≤ a → EX [38] h h1 → (∀ j : Nat, h1 38 j = if k < j ∧ (j : Int) ≤ a then h 38 (j - 1) else h 38 j) → (∀ h2 : Hp, EX [38] h h2 → (∀ j : Nat, h2 38 j = if hdP (h 38) b k < j ∧ (j : Int) ≤ a then h 38 (j - 1) else h 38 j) → AW K X RX2 cX2_hide 4 none dep 38 [some (vR 35), some (vI (a)), some (vI (b)), some (vI (((hdP (h 38) b k : Nat) : Int)))] [] h2) → AW K X RX2 cX2_hide 4 none dep 2 [some (vR 35), some (vI (a)), some (vI (b)), some (vI ((k : Int)))] [] h1 := by
  intro k
  induction k with
  | zero =>
    intro h1 hk e1 t1 kk
    refine AW.iload_n (pc' := 3) dX2_hide_2 rfl ?_
    refine AW.if_le (tgt := 38) (pc' := 6) dX2_hide_3 (by first | assumption | omega | (constructor <;> omega) | (simp only [Int.toNat_natCast]; omega) | exact b2_in _) (fun c3 => ?_) (fun c3 => ?_)
    · exact AW.weak (kk h1 e1 t1) (by (repeat' first | exact LSub.e | refine LSub.n ?_ | refine LSub.c ?_ ?_) <;> first | rfl | exact congrArg Sum.inl (by first | rfl | omega | omega) | exact congrArg (fun z : Int => (vL z : AV)) (by first | rfl | omega | omega))
    · omega
  | succ k ih =>
    intro h1 hk e1 t1 kk
    have ek : (((k + 1 : Nat) : Int) - 1).toNat = k := by omega
    have tk : h1 38 k = h 38 k := by rw [t1 k, if_neg (by omega)]
    refine AW.iload_n (pc' := 3) dX2_hide_2 rfl ?_
    refine AW.if_le (tgt := 38) (pc' := 6) dX2_hide_3 (by first | assumption | omega | (constructor <;> omega) | (simp only [Int.toNat_natCast]; omega) | exact b2_in _) (fun c3 => ?_) (fun c3 => ?_)
    · omega
    · refine AW.aload_n (pc' := 7) dX2_hide_6 rfl ?_
      refine AW.getR (pc' := 10) dX2_hide_7 ly_35 fX2_26 rfl ?_
      refine AW.iload_n (pc' := 11) dX2_hide_10 rfl ?_
      refine AW.iconst (pc' := 12) dX2_hide_11 ?_
      refine AW.isub (pc' := 13) dX2_hide_12 ?_
      first | refine AW.ialdN (pc' := 14) dX2_hide_13 ly_38 (by first | assumption | omega | (constructor <;> omega) | (simp only [Int.toNat_natCast]; omega) | exact b2_in _) (by decide) (fun r13 => ?_) | refine AW.iald (pc' := 14) dX2_hide_13 ly_38 (by first | assumption | omega | (constructor <;> omega) | (simp only [Int.toNat_natCast]; omega) | exact b2_in _) (by first | assumption | omega | (constructor <;> omega) | (simp only [Int.toNat_natCast]; omega) | exact b2_in _) (by decide) (fun r13 => ?_)
      try simp only [ek, tk] at r13 ⊢
      refine AW.iload_n (pc' := 15) dX2_hide_14 rfl ?_
      refine AW.icmp_le (tgt := 38) (pc' := 18) dX2_hide_15 (by first | assumption | omega | (constructor <;> omega) | (simp only [Int.toNat_natCast]; omega) | exact b2_in _) (by first | assumption | omega | (constructor <;> omega) | (simp only [Int.toNat_natCast]; omega) | exact b2_in _) (fun c15 => ?_) (fun c15 => ?_)
      · exact AW.weak (kk h1 e1 (by rw [hdP_f (by omega)]; exact t1)) (by (repeat' first | exact LSub.e | refine LSub.n ?_ | refine LSub.c ?_ ?_) <;> first | rfl | exact congrArg Sum.inl (by first | rfl | omega | (rw [hdP_f (by omega)])) | exact congrArg (fun z : Int => (vL z : AV)) (by first | rfl | omega | (rw [hdP_f (by omega)])))
      · refine AW.aload_n (pc' := 19) dX2_hide_18 rfl ?_
        refine AW.getR (pc' := 22) dX2_hide_19 ly_35 fX2_26 rfl ?_
        refine AW.iload_n (pc' := 23) dX2_hide_22 rfl ?_
        refine AW.aload_n (pc' := 24) dX2_hide_23 rfl ?_
        refine AW.getR (pc' := 27) dX2_hide_24 ly_35 fX2_26 rfl ?_
        refine AW.iload_n (pc' := 28) dX2_hide_27 rfl ?_
        refine AW.iconst (pc' := 29) dX2_hide_28 ?_
        refine AW.isub (pc' := 30) dX2_hide_29 ?_
        first | refine AW.ialdN (pc' := 31) dX2_hide_30 ly_38 (by first | assumption | omega | (constructor <;> omega) | (simp only [Int.toNat_natCast]; omega) | exact b2_in _) (by decide) (fun r30 => ?_) | refine AW.iald (pc' := 31) dX2_hide_30 ly_38 (by first | assumption | omega | (constructor <;> omega) | (simp only [Int.toNat_natCast]; omega) | exact b2_in _) (by first | assumption | omega | (constructor <;> omega) | (simp only [Int.toNat_natCast]; omega) | exact b2_in _) (by decide) (fun r30 => ?_)
        try simp only [ek, tk] at r30 ⊢
        first | refine AW.iastN (pc' := 32) dX2_hide_31 ly_38 (by first | assumption | omega | (constructor <;> omega) | (simp only [Int.toNat_natCast]; omega) | exact b2_in _) (by decide) (by first | assumption | omega | (constructor <;> omega) | (simp only [Int.toNat_natCast]; omega) | exact b2_in _) ?_ | refine AW.iast (pc' := 32) dX2_hide_31 ly_38 (by first | assumption | omega | (constructor <;> omega) | (simp only [Int.toNat_natCast]; omega) | exact b2_in _) (by first | assumption | omega | (constructor <;> omega) | (simp only [Int.toNat_natCast]; omega) | exact b2_in _) (by decide) (by first | assumption | omega | (constructor <;> omega) | (simp only [Int.toNat_natCast]; omega) | exact b2_in _) ?_
        refine AW.iinc3 (pc' := 35) dX2_hide_32 (by decide) rfl ?_
        refine AW.goto (tgt := 2) dX2_hide_35 ?_
        have c99 : b < h 38 k := by omega
        exact AW.weak (ih _ (by omega) (e1.st rfl) (fun j => by
            by_cases z : j = k + 1
            · subst z
              simp only [hset_app, true_and, and_true, reduceIte]
              rw [if_pos ⟨by omega, by omega⟩]
              rfl
            · simp only [hset_app, true_and, z, reduceIte]
              rw [t1 j]
              by_cases y : k + 1 < j ∧ (j : Int) ≤ a
              · rw [if_pos y, if_pos ⟨by omega, y.2⟩]
              · rw [if_neg y, if_neg (by omega)]) (by rw [hdP_t c99] at kk; exact kk)) (by (repeat' first | exact LSub.e | refine LSub.n ?_ | refine LSub.c ?_ ?_) <;> first | rfl | exact congrArg Sum.inl (by first | rfl | omega | (push_cast; omega)) | exact congrArg (fun z : Int => (vL z : AV)) (by first | rfl | omega | (push_cast; omega)))
set_option maxRecDepth 100000 in
set_option maxHeartbeats 4000000 in
theorem c_X2_hide {K : KT} {dep : Nat} {h : Hp} {a b : Int}  (q0 : 0 ≤ a ∧ a < 12) (q1 : inI b) : AMp K yX2_hide cX2_hide 4 none dep [vR 35, vI a, vI b] h none (fun x => EX [38] h x ∧ ∀ j : Nat, x 38 j = hdR (h 38) a.toNat b j) := by
  refine AM.of (own := RX2) (ls := [some (vR 35), some (vI a), some (vI b), none]) rfl (by decide +kernel) (by exact Nat.le_of_ble_eq_true rfl) rfl (fun hO => ?_)
  refine AW.iload_n (pc' := 1) dX2_hide_0 rfl ?_
  refine AW.istore3n (pc' := 2) dX2_hide_1 (by decide) rfl ?_
  refine AW.weak (lp_X2_hide q0 q1 (dep := dep) a.toNat h (by omega) EX.rf (fun j => by rw [if_neg (by omega)]) (fun h2 e2 t2 => ?_)) (by (repeat' first | exact LSub.e | refine LSub.n ?_ | refine LSub.c ?_ ?_) <;> first | rfl | exact congrArg Sum.inl (by first | rfl | omega | omega) | exact congrArg (fun z : Int => (vL z : AV)) (by first | rfl | omega | omega))
  have ip := hdP_le (h 38) b a.toNat
  refine AW.aload_n (pc' := 39) dX2_hide_38 rfl ?_
  refine AW.getR (pc' := 42) dX2_hide_39 ly_35 fX2_26 rfl ?_
  refine AW.iload_n (pc' := 43) dX2_hide_42 rfl ?_
  refine AW.iload_n (pc' := 44) dX2_hide_43 rfl ?_
  first | refine AW.iastN (pc' := 45) dX2_hide_44 ly_38 (by first | assumption | omega | (constructor <;> omega) | (simp only [Int.toNat_natCast]; omega) | exact b2_in _) (by decide) (by first | assumption | omega | (constructor <;> omega) | (simp only [Int.toNat_natCast]; omega) | exact b2_in _) ?_ | refine AW.iast (pc' := 45) dX2_hide_44 ly_38 (by first | assumption | omega | (constructor <;> omega) | (simp only [Int.toNat_natCast]; omega) | exact b2_in _) (by first | assumption | omega | (constructor <;> omega) | (simp only [Int.toNat_natCast]; omega) | exact b2_in _) (by decide) (by first | assumption | omega | (constructor <;> omega) | (simp only [Int.toNat_natCast]; omega) | exact b2_in _) ?_
  refine AW.vret dX2_hide_45 ?_ ?_
  · rfl
  · refine ⟨e2.st rfl, fun j => ?_⟩
    simp only [hset_app, true_and, Int.toNat_natCast]
    unfold hdR
    by_cases z : j = hdP (h 38) b a.toNat
    · rw [if_pos z, if_pos z]
    · rw [if_neg z, if_neg z, t2 j]
      by_cases y : hdP (h 38) b a.toNat < j ∧ (j : Int) ≤ a
      · rw [if_pos y, if_pos ⟨y.1, by omega⟩]
      · rw [if_neg y, if_neg (fun w => y ⟨w.1, by omega⟩)]
