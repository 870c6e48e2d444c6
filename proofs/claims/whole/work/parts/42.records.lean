/-! records: the class -/
def slQ (ye tm row : Nat → Int) (b : Int) : Nat → Nat
  | 0 => 0
  | k + 1 => if ye (row k).toNat = ye b.toNat ∧ tm b.toNat < tm (row k).toNat then slQ ye tm row b k else k + 1
theorem slQ_le (ye tm row : Nat → Int) (b : Int) : ∀ k : Nat, slQ ye tm row b k ≤ k
  | 0 => Nat.le_refl _
  | k + 1 => by
    unfold slQ
    split
    · have := slQ_le ye tm row b k; omega
    · exact Nat.le_refl _
theorem slQ_t {ye tm row : Nat → Int} {b : Int} {k : Nat} (h : ye (row k).toNat = ye b.toNat ∧ tm b.toNat < tm (row k).toNat) : slQ ye tm row b (k + 1) = slQ ye tm row b k := by
  conv => lhs; unfold slQ
  rw [if_pos h]
theorem slQ_f {ye tm row : Nat → Int} {b : Int} {k : Nat} (h : ¬ (ye (row k).toNat = ye b.toNat ∧ tm b.toNat < tm (row k).toNat)) : slQ ye tm row b (k + 1) = k + 1 := by
  conv => lhs; unfold slQ
  rw [if_neg h]
/-- the line behind the coming of a run -/
def slR (ye tm row : Nat → Int) (m : Nat) (b : Int) (j : Nat) : Int := if j = slQ ye tm row b m then b else if slQ ye tm row b m < j ∧ j ≤ m then row (j - 1) else row j
theorem slR_in {ye tm row : Nat → Int} {m : Nat} {b A : Int} (h : ∀ j : Nat, j < m → 0 ≤ row j ∧ row j < A) (h1 : 0 ≤ b ∧ b < A) : ∀ j : Nat, j < m + 1 → 0 ≤ slR ye tm row m b j ∧ slR ye tm row m b j < A := fun j hj => by
  have p := slQ_le ye tm row b m
  unfold slR
  split
  · exact h1
  · split
    · exact h (j - 1) (by omega)
    · exact h j (by omega)
abbrev LN : Type := Nat × (Nat → Int)
abbrev faP (sh th : Nat → Int) (b : Int) (k : Nat) : Prop := 0 ≤ sh k ∧ b < th (sh k).toNat
def luS (co sh th ye tm ord : Nat → Int) (c b : Int) (k : Nat) (s : LN) : LN := if co (ord k).toNat = c ∧ ¬ faP sh th b (ord k).toNat then (s.1 + 1, slR ye tm s.2 s.1 (ord k)) else s
abbrev luX (h : Hp) (c b : Int) : Nat → LN → LN := luS (h 14) (h 17) (h 7) (h 15) (h 16) (h 19) c b
theorem luS_in {co sh th ye tm ord : Nat → Int} {c b A : Int} {k : Nat} {s : LN} (h : ∀ j : Nat, j < s.1 → 0 ≤ s.2 j ∧ s.2 j < A) (h1 : 0 ≤ ord k ∧ ord k < A) : ∀ j : Nat, j < (luS co sh th ye tm ord c b k s).1 → 0 ≤ (luS co sh th ye tm ord c b k s).2 j ∧ (luS co sh th ye tm ord c b k s).2 j < A := by
  unfold luS
  split
  · exact slR_in h h1
  · exact h
theorem luS_le {co sh th ye tm ord : Nat → Int} {c b : Int} {k : Nat} {s : LN} (h : s.1 ≤ k) : (luS co sh th ye tm ord c b k s).1 ≤ k + 1 := by
  unfold luS
  split
  · show s.1 + 1 ≤ k + 1; omega
  · omega
theorem luL_in {co sh th ye tm ord : Nat → Int} {c b : Int} {m : Int} (hO : PO m ord) : ∀ (n k : Nat) (s : LN), (k : Int) + n = m → s.1 ≤ k → (∀ j : Nat, j < s.1 → 0 ≤ s.2 j ∧ s.2 j < m) → (lp (luS co sh th ye tm ord c b) n k s).1 ≤ k + n ∧ ∀ j : Nat, j < (lp (luS co sh th ye tm ord c b) n k s).1 → 0 ≤ (lp (luS co sh th ye tm ord c b) n k s).2 j ∧ (lp (luS co sh th ye tm ord c b) n k s).2 j < m
  | 0, k, s, hk, hs, h => ⟨hs, h⟩
  | n + 1, k, s, hk, hs, h => by
    unfold lp
    have q := luL_in (co := co) (sh := sh) (th := th) (ye := ye) (tm := tm) (c := c) (b := b) hO n (k + 1) (luS co sh th ye tm ord c b k s) (by omega) (luS_le hs) (luS_in h (hO k (by omega)))
    exact ⟨by omega, q.2⟩
abbrev luF (h : Hp) (c b : Int) : LN := lp (luX h c b) (h 12 10).toNat 0 (0, h 20)
set_option maxRecDepth 100000 in
set_option maxHeartbeats 4000000 in
theorem lp_X7_lineUpI {K : KT} {X : XT} {dep : Nat} {h : Hp} {a c k1 b : Int} {m : Nat} (hm : m < 120) (qb : 0 ≤ b ∧ b < 120) (hr : ∀ j : Nat, j < m → 0 ≤ h 20 j ∧ h 20 j < 120) (hd : 1 ≤ dep) : ∀ (k : Nat) (h1 : Hp), k ≤ m → EX [20] h h1 → (∀ j : Nat, h1 20 j = if k < j ∧ j ≤ m then h 20 (j - 1) else h 20 j) → (∀ h2 : Hp, EX [20] h h2 → (∀ j : Nat, h2 20 j = if slQ (h 15) (h 16) (h 20) b k < j ∧ j ≤ m then h 20 (j - 1) else h 20 j) → AW K X RX7 cX7_lineUp 7 (some .int) dep 92 [some (vR 12), some (vI (a)), some (vI (c)), some (vI ((m : Int))), some (vI (k1)), some (vI (b)), some (vI (((slQ (h 15) (h 16) (h 20) b k : Nat) : Int)))] [] h2) → AW K X RX7 cX7_lineUp 7 (some .int) dep 47 [some (vR 12), some (vI (a)), some (vI (c)), some (vI ((m : Int))), some (vI (k1)), some (vI (b)), some (vI ((k : Int)))] [] h1 := by
  intro k
  induction k with
  | zero =>
    intro h1 hk e1 t1 kk
    refine AW.iload (pc' := 49) dX7_lineUp_47 rfl ?_
    refine AW.if_le (tgt := 92) (pc' := 52) dX7_lineUp_49 (by first | assumption | omega | (constructor <;> omega) | (simp only [Int.toNat_natCast]; omega) | exact b2_in _) (fun c49 => ?_) (fun c49 => ?_)
    · exact AW.weak (kk h1 e1 t1) (by (repeat' first | exact LSub.e | refine LSub.n ?_ | refine LSub.c ?_ ?_) <;> first | rfl | exact congrArg Sum.inl (by first | rfl | omega | omega) | exact congrArg (fun z : Int => (vL z : AV)) (by first | rfl | omega | omega))
    · omega
  | succ k ih =>
    intro h1 hk e1 t1 kk
    have ek : (((k + 1 : Nat) : Int) - 1).toNat = k := by omega
    have w15 := e1 15 rfl
    have w16 := e1 16 rfl
    have o1 := hr k (by omega)
    have tk : h1 20 k = h 20 k := by rw [t1 k, if_neg (by omega)]
    refine AW.iload (pc' := 49) dX7_lineUp_47 rfl ?_
    refine AW.if_le (tgt := 92) (pc' := 52) dX7_lineUp_49 (by first | assumption | omega | (constructor <;> omega) | (simp only [Int.toNat_natCast]; omega) | exact b2_in _) (fun c49 => ?_) (fun c49 => ?_)
    · omega
    · refine AW.aload_n (pc' := 53) dX7_lineUp_52 rfl ?_
      refine AW.aload_n (pc' := 54) dX7_lineUp_53 rfl ?_
      refine AW.getR (pc' := 57) dX7_lineUp_54 ly_12 fX7_33 rfl ?_
      refine AW.iload (pc' := 59) dX7_lineUp_57 rfl ?_
      refine AW.iconst (pc' := 60) dX7_lineUp_59 ?_
      refine AW.isub (pc' := 61) dX7_lineUp_60 ?_
      first | refine AW.ialdN (pc' := 62) dX7_lineUp_61 ly_20 (by first | assumption | omega | (constructor <;> omega) | (simp only [Int.toNat_natCast]; omega) | exact b2_in _) (by decide) (fun r61 => ?_) | refine AW.iald (pc' := 62) dX7_lineUp_61 ly_20 (by first | assumption | omega | (constructor <;> omega) | (simp only [Int.toNat_natCast]; omega) | exact b2_in _) (by first | assumption | omega | (constructor <;> omega) | (simp only [Int.toNat_natCast]; omega) | exact b2_in _) (by decide) (fun r61 => ?_)
      try simp only [ek, tk, w15, w16] at r61 ⊢
      refine AW.iload (pc' := 64) dX7_lineUp_62 rfl ?_
      refine AW.invV2 (pc' := 67) dX7_lineUp_64 mlX7_90 mX7_isSlower ly_12 rfl (c_X7_isSlower (dep := dep - 1) (by first | assumption | omega | (constructor <;> omega) | (simp only [Int.toNat_natCast]; omega) | exact b2_in _) (by first | assumption | omega | (constructor <;> omega) | (simp only [Int.toNat_natCast]; omega) | exact b2_in _)) ?_
      try simp only [Int.toNat_natCast, ek, tk, w15, w16]
      refine AW.ifb_eq (tgt := 92) (pc' := 70) dX7_lineUp_67 (fun c67 => ?_) (fun c67 => ?_)
      · exact AW.weak (kk h1 e1 (by rw [slQ_f c67]; exact t1)) (by (repeat' first | exact LSub.e | refine LSub.n ?_ | refine LSub.c ?_ ?_) <;> first | rfl | exact congrArg Sum.inl (by first | rfl | omega | (rw [slQ_f c67])) | exact congrArg (fun z : Int => (vL z : AV)) (by first | rfl | omega | (rw [slQ_f c67])))
      · refine AW.aload_n (pc' := 71) dX7_lineUp_70 rfl ?_
        refine AW.getR (pc' := 74) dX7_lineUp_71 ly_12 fX7_33 rfl ?_
        refine AW.iload (pc' := 76) dX7_lineUp_74 rfl ?_
        refine AW.aload_n (pc' := 77) dX7_lineUp_76 rfl ?_
        refine AW.getR (pc' := 80) dX7_lineUp_77 ly_12 fX7_33 rfl ?_
        refine AW.iload (pc' := 82) dX7_lineUp_80 rfl ?_
        refine AW.iconst (pc' := 83) dX7_lineUp_82 ?_
        refine AW.isub (pc' := 84) dX7_lineUp_83 ?_
        first | refine AW.ialdN (pc' := 85) dX7_lineUp_84 ly_20 (by first | assumption | omega | (constructor <;> omega) | (simp only [Int.toNat_natCast]; omega) | exact b2_in _) (by decide) (fun r84 => ?_) | refine AW.iald (pc' := 85) dX7_lineUp_84 ly_20 (by first | assumption | omega | (constructor <;> omega) | (simp only [Int.toNat_natCast]; omega) | exact b2_in _) (by first | assumption | omega | (constructor <;> omega) | (simp only [Int.toNat_natCast]; omega) | exact b2_in _) (by decide) (fun r84 => ?_)
        try simp only [ek, tk, w15, w16] at r84 ⊢
        first | refine AW.iastN (pc' := 86) dX7_lineUp_85 ly_20 (by first | assumption | omega | (constructor <;> omega) | (simp only [Int.toNat_natCast]; omega) | exact b2_in _) (by decide) (by first | assumption | omega | (constructor <;> omega) | (simp only [Int.toNat_natCast]; omega) | exact b2_in _) ?_ | refine AW.iast (pc' := 86) dX7_lineUp_85 ly_20 (by first | assumption | omega | (constructor <;> omega) | (simp only [Int.toNat_natCast]; omega) | exact b2_in _) (by first | assumption | omega | (constructor <;> omega) | (simp only [Int.toNat_natCast]; omega) | exact b2_in _) (by decide) (by first | assumption | omega | (constructor <;> omega) | (simp only [Int.toNat_natCast]; omega) | exact b2_in _) ?_
        refine AW.iinc6 (pc' := 89) dX7_lineUp_86 (by decide) rfl ?_
        refine AW.goto (tgt := 47) dX7_lineUp_89 ?_
        exact AW.weak (ih _ (by omega) (e1.st rfl) (fun j => by
            by_cases z : j = k + 1
            · subst z
              simp only [hset_app, true_and, and_true, Int.toNat_natCast, reduceIte]
              rw [if_pos ⟨by omega, by omega⟩]
              rfl
            · simp only [hset_app, true_and, Int.toNat_natCast, z, reduceIte]
              rw [t1 j]
              by_cases y : k + 1 < j ∧ j ≤ m
              · rw [if_pos y, if_pos ⟨by omega, y.2⟩]
              · rw [if_neg y, if_neg (by omega)]) (by rw [slQ_t c67] at kk; exact kk)) (by (repeat' first | exact LSub.e | refine LSub.n ?_ | refine LSub.c ?_ ?_) <;> first | rfl | exact congrArg Sum.inl (by first | rfl | omega | (push_cast; omega)) | exact congrArg (fun z : Int => (vL z : AV)) (by first | rfl | omega | (push_cast; omega)))
set_option maxRecDepth 100000 in
set_option maxHeartbeats 4000000 in
theorem lp_X7_lineUp {K : KT} {X : XT} {dep : Nat} {h : Hp} {a c : Int} (hI : IXa h) (hQ : PO (h 12 10) (h 19)) (qa : inI a) (qc : inI c) (hd : 3 ≤ dep) : ∀ (n k : Nat) (s : LN) (h1 : Hp), (k : Int) + n = h 12 10 → EX [20] h h1 → h1 20 = s.2 → s.1 ≤ k → (∀ j : Nat, j < s.1 → 0 ≤ s.2 j ∧ s.2 j < h 12 10) → (∀ h2 : Hp, EX [20] h h2 → h2 20 = (lp (luX h a c) n k s).2 → AW K X RX7 cX7_lineUp 7 (some .int) dep 110 [some (vR 12), some (vI (a)), some (vI (c)), some (vI (((lp (luX h a c) n k s).1 : Int))), none, none, none] [] h2) → AW K X RX7 cX7_lineUp 7 (some .int) dep 5 [some (vR 12), some (vI (a)), some (vI (c)), some (vI ((s.1 : Int))), some (vI ((k : Int))), none, none] [] h1 := by
  have g6 := hI.2.2.2.1
  have g7 := hI.2.2.2.2.1
  have g8 := hI.2.1.2.1
  intro n
  induction n with
  | zero =>
    intro k s h1 hk e1 t1 hs hr kk
    have w12 := e1 12 rfl
    refine AW.iload (pc' := 7) dX7_lineUp_5 rfl ?_
    refine AW.aload_n (pc' := 8) dX7_lineUp_7 rfl ?_
    refine AW.getI (pc' := 11) dX7_lineUp_8 ly_12 fX7_44 rfl (fun r8 => ?_)
    try simp only [w12] at r8 ⊢
    refine AW.icmp_ge (tgt := 110) (pc' := 14) dX7_lineUp_11 (by first | assumption | omega | (constructor <;> omega) | (simp only [Int.toNat_natCast]; omega) | exact b2_in _) (by first | assumption | omega | (constructor <;> omega) | (simp only [Int.toNat_natCast]; omega) | exact b2_in _) (fun c11 => ?_) (fun c11 => ?_)
    · exact AW.weak (kk h1 e1 t1) (by (repeat' first | exact LSub.e | refine LSub.n ?_ | refine LSub.c ?_ ?_) <;> first | rfl | exact congrArg Sum.inl (by first | rfl | omega | omega) | exact congrArg (fun z : Int => (vL z : AV)) (by first | rfl | omega | omega))
    · omega
  | succ n ih =>
    intro k s h1 hk e1 t1 hs hr kk
    have w12 := e1 12 rfl
    have w14 := e1 14 rfl
    have w15 := e1 15 rfl
    have w16 := e1 16 rfl
    have w17 := e1 17 rfl
    have w19 := e1 19 rfl
    have w7 := e1 7 rfl
    have w6 := e1 6 rfl
    have hkr : (k : Int) < h 12 10 := by omega
    have g12 : h1 12 10 = h 12 10 := by rw [w12]
    have g63 : h1 6 3 = h 6 3 := by rw [w6]
    have o1 := hQ k hkr
    have g5 := hI.2.2.2.2.2 (h 19 k).toNat (by omega)
    have sl := luS_le (co := h 14) (sh := h 17) (th := h 7) (ye := h 15) (tm := h 16) (ord := h 19) (c := a) (b := c) hs
    have si := luS_in (co := h 14) (sh := h 17) (th := h 7) (ye := h 15) (tm := h 16) (ord := h 19) (c := a) (b := c) hr o1
    refine AW.iload (pc' := 7) dX7_lineUp_5 rfl ?_
    refine AW.aload_n (pc' := 8) dX7_lineUp_7 rfl ?_
    refine AW.getI (pc' := 11) dX7_lineUp_8 ly_12 fX7_44 rfl (fun r8 => ?_)
    try simp only [w12, w14, w15, w16, w17, w19, w7, w6, Int.toNat_natCast] at r8 ⊢
    refine AW.icmp_ge (tgt := 110) (pc' := 14) dX7_lineUp_11 (by first | assumption | omega | (constructor <;> omega) | (simp only [Int.toNat_natCast]; omega) | exact b2_in _) (by first | assumption | omega | (constructor <;> omega) | (simp only [Int.toNat_natCast]; omega) | exact b2_in _) (fun c11 => ?_) (fun c11 => ?_)
    · omega
    · refine AW.aload_n (pc' := 15) dX7_lineUp_14 rfl ?_
      refine AW.getR (pc' := 18) dX7_lineUp_15 ly_12 fX7_30 rfl ?_
      refine AW.iload (pc' := 20) dX7_lineUp_18 rfl ?_
      first | refine AW.ialdN (pc' := 21) dX7_lineUp_20 ly_19 (by first | assumption | omega | (constructor <;> omega) | (simp only [Int.toNat_natCast]; omega) | exact b2_in _) (by decide) (fun r20 => ?_) | refine AW.iald (pc' := 21) dX7_lineUp_20 ly_19 (by first | assumption | omega | (constructor <;> omega) | (simp only [Int.toNat_natCast]; omega) | exact b2_in _) (by first | assumption | omega | (constructor <;> omega) | (simp only [Int.toNat_natCast]; omega) | exact b2_in _) (by decide) (fun r20 => ?_)
      try simp only [w12, w14, w15, w16, w17, w19, w7, w6, Int.toNat_natCast] at r20 ⊢
      refine AW.istore5 (pc' := 23) dX7_lineUp_21 (by decide) rfl ?_
      refine AW.aload_n (pc' := 24) dX7_lineUp_23 rfl ?_
      refine AW.getR (pc' := 27) dX7_lineUp_24 ly_12 fX7_15 rfl ?_
      refine AW.iload (pc' := 29) dX7_lineUp_27 rfl ?_
      first | refine AW.ialdN (pc' := 30) dX7_lineUp_29 ly_14 (by first | assumption | omega | (constructor <;> omega) | (simp only [Int.toNat_natCast]; omega) | exact b2_in _) (by decide) (fun r29 => ?_) | refine AW.iald (pc' := 30) dX7_lineUp_29 ly_14 (by first | assumption | omega | (constructor <;> omega) | (simp only [Int.toNat_natCast]; omega) | exact b2_in _) (by first | assumption | omega | (constructor <;> omega) | (simp only [Int.toNat_natCast]; omega) | exact b2_in _) (by decide) (fun r29 => ?_)
      try simp only [w12, w14, w15, w16, w17, w19, w7, w6, Int.toNat_natCast] at r29 ⊢
      refine AW.iload_n (pc' := 31) dX7_lineUp_30 rfl ?_
      refine AW.icmp_ne (tgt := 104) (pc' := 34) dX7_lineUp_31 (by first | assumption | omega | (constructor <;> omega) | (simp only [Int.toNat_natCast]; omega) | exact b2_in _) (by first | assumption | omega | (constructor <;> omega) | (simp only [Int.toNat_natCast]; omega) | exact b2_in _) (fun c31 => ?_) (fun c31 => ?_)
      · refine AW.iinc4 (pc' := 107) dX7_lineUp_104 (by decide) rfl ?_
        refine AW.goto (tgt := 5) dX7_lineUp_107 ?_
        have z : luX h a c k s = s := by
          simp only [luX, luS]
          rw [if_neg (by unfold faP; omega)]
        exact AW.weak (ih (k + 1) (luX h a c k s) h1 (by omega) e1 (by rw [z]; exact t1) sl si kk) (by (repeat' first | exact LSub.e | refine LSub.n ?_ | refine LSub.c ?_ ?_) <;> first | rfl | exact congrArg Sum.inl (by first | rfl | omega | first | (push_cast; omega) | (rw [z])) | exact congrArg (fun z : Int => (vL z : AV)) (by first | rfl | omega | first | (push_cast; omega) | (rw [z])))
      · refine AW.aload_n (pc' := 35) dX7_lineUp_34 rfl ?_
        refine AW.iload (pc' := 37) dX7_lineUp_35 rfl ?_
        refine AW.iload_n (pc' := 38) dX7_lineUp_37 rfl ?_
        refine AW.invV2 (pc' := 41) dX7_lineUp_38 mlX7_82 mX7_falls ly_12 rfl (c_X7_falls (dep := dep - 1) (by omega) (by omega) (by omega) (by omega)) ?_
        try simp only [Int.toNat_natCast, w12, w14, w15, w16, w17, w19, w7, w6, Int.toNat_natCast]
        refine AW.ifb_ne (tgt := 104) (pc' := 44) dX7_lineUp_41 (fun c41 => ?_) (fun c41 => ?_)
        · refine AW.iinc4 (pc' := 107) dX7_lineUp_104 (by decide) rfl ?_
          refine AW.goto (tgt := 5) dX7_lineUp_107 ?_
          have z : luX h a c k s = s := by
            simp only [luX, luS]
            rw [if_neg (by unfold faP; omega)]
          exact AW.weak (ih (k + 1) (luX h a c k s) h1 (by omega) e1 (by rw [z]; exact t1) sl si kk) (by (repeat' first | exact LSub.e | refine LSub.n ?_ | refine LSub.c ?_ ?_) <;> first | rfl | exact congrArg Sum.inl (by first | rfl | omega | first | (push_cast; omega) | (rw [z])) | exact congrArg (fun z : Int => (vL z : AV)) (by first | rfl | omega | first | (push_cast; omega) | (rw [z])))
        · refine AW.iload_n (pc' := 45) dX7_lineUp_44 rfl ?_
          refine AW.istore6 (pc' := 47) dX7_lineUp_45 (by decide) rfl ?_
          have hr1 : ∀ j : Nat, j < s.1 → 0 ≤ h1 20 j ∧ h1 20 j < 120 := fun j hj => by rw [t1]; have := hr j hj; omega
          refine AW.weak (lp_X7_lineUpI (h := h1) (a := a) (c := c) (k1 := (k : Int)) (b := h 19 k) (m := s.1) (by omega) (by omega) hr1 (by omega) s.1 h1 (by omega) EX.rf (fun j => by rw [if_neg (by omega)]) (fun h2 e2 t2 => ?_)) (by (repeat' first | exact LSub.e | refine LSub.n ?_ | refine LSub.c ?_ ?_) <;> first | rfl | exact congrArg Sum.inl (by first | rfl | omega | omega) | exact congrArg (fun z : Int => (vL z : AV)) (by first | rfl | omega | omega))
          rw [w15, w16, t1] at t2
          rw [w15, w16, t1]
          have sq := slQ_le (h 15) (h 16) s.2 (h 19 k) s.1
          refine AW.aload_n (pc' := 93) dX7_lineUp_92 rfl ?_
          refine AW.getR (pc' := 96) dX7_lineUp_93 ly_12 fX7_33 rfl ?_
          refine AW.iload (pc' := 98) dX7_lineUp_96 rfl ?_
          refine AW.iload (pc' := 100) dX7_lineUp_98 rfl ?_
          first | refine AW.iastN (pc' := 101) dX7_lineUp_100 ly_20 (by first | assumption | omega | (constructor <;> omega) | (simp only [Int.toNat_natCast]; omega) | exact b2_in _) (by decide) (by first | assumption | omega | (constructor <;> omega) | (simp only [Int.toNat_natCast]; omega) | exact b2_in _) ?_ | refine AW.iast (pc' := 101) dX7_lineUp_100 ly_20 (by first | assumption | omega | (constructor <;> omega) | (simp only [Int.toNat_natCast]; omega) | exact b2_in _) (by first | assumption | omega | (constructor <;> omega) | (simp only [Int.toNat_natCast]; omega) | exact b2_in _) (by decide) (by first | assumption | omega | (constructor <;> omega) | (simp only [Int.toNat_natCast]; omega) | exact b2_in _) ?_
          refine AW.iinc3 (pc' := 104) dX7_lineUp_101 (by decide) rfl ?_
          refine AW.iinc4 (pc' := 107) dX7_lineUp_104 (by decide) rfl ?_
          refine AW.goto (tgt := 5) dX7_lineUp_107 ?_
          have z : luX h a c k s = (s.1 + 1, slR (h 15) (h 16) s.2 s.1 (h 19 k)) := by
            simp only [luX, luS]
            rw [if_pos (by unfold faP; omega)]
          exact AW.weak (ih (k + 1) (luX h a c k s) _ (by omega) ((e1.tr e2).st rfl) (by
              rw [z]
              funext j
              simp only [hset_app, true_and, Int.toNat_natCast, slR]
              by_cases y : j = slQ (h 15) (h 16) s.2 (h 19 k) s.1
              · rw [if_pos y, if_pos y]
              · rw [if_neg y, if_neg y, t2 j]) sl si kk) (by (repeat' first | exact LSub.e | refine LSub.n ?_ | refine LSub.c ?_ ?_) <;> first | rfl | exact congrArg Sum.inl (by first | rfl | omega | first | (push_cast; omega) | (rw [z]; push_cast; omega)) | exact congrArg (fun z : Int => (vL z : AV)) (by first | rfl | omega | first | (push_cast; omega) | (rw [z]; push_cast; omega)))
set_option maxRecDepth 100000 in
set_option maxHeartbeats 4000000 in
theorem c_X7_lineUp {K : KT} {dep : Nat} {h : Hp} {a c : Int} (hd : 3 ≤ dep) (hI : IXa h) (hQ : PO (h 12 10) (h 19)) (q2 : inI a) (q3 : inI c) : AMp K yX7_lineUp cX7_lineUp 7 (some .int) dep [vR 12, vI a, vI c] h (some (vI ((luF h a c).1 : Int))) (fun x => EX [20] h x ∧ x 20 = (luF h a c).2) := by
  refine AM.of (own := RX7) (ls := [some (vR 12), some (vI a), some (vI c), none, none, none, none]) rfl (by decide +kernel) (by exact Nat.le_of_ble_eq_true rfl) rfl (fun hO => ?_)
  have g6 := hI.2.2.2.1
  have g7 := hI.2.2.2.2.1
  have g8 := hI.2.1.2.1
  refine AW.iconst (pc' := 1) dX7_lineUp_0 ?_
  refine AW.istore3n (pc' := 2) dX7_lineUp_1 (by decide) rfl ?_
  refine AW.iconst (pc' := 3) dX7_lineUp_2 ?_
  refine AW.istore4 (pc' := 5) dX7_lineUp_3 (by decide) rfl ?_
  refine AW.weak (lp_X7_lineUp hI hQ (a := a) (c := c) (by omega) (by omega) hd (h 12 10).toNat 0 (0, h 20) h (by omega) EX.rf rfl (Nat.le_refl _) (fun j hj => absurd hj (Nat.not_lt_zero _)) (fun h2 e2 t2 => ?_)) (by (repeat' first | exact LSub.e | refine LSub.n ?_ | refine LSub.c ?_ ?_) <;> first | rfl | exact congrArg Sum.inl (by first | rfl | omega | omega) | exact congrArg (fun z : Int => (vL z : AV)) (by first | rfl | omega | omega))
  refine AW.iload_n (pc' := 111) dX7_lineUp_110 rfl ?_
  refine AW.iret dX7_lineUp_111 ?_ ?_
  · rfl
  · exact ⟨e2, t2⟩
def reF (tm row : Nat → Int) (i : Int) : Nat → Nat → Int → Int → Int
  | 0, _, _, m => if i = -1 then m else -1
  | n + 1, k, q, m => if tm (row k).toNat < q then (if m = i then row k else reF tm row i n (k + 1) (tm (row k).toNat) (m + 1)) else reF tm row i n (k + 1) q m
set_option maxRecDepth 100000 in
set_option maxHeartbeats 4000000 in
theorem lp_X7_recordOf {K : KT}  {dep : Nat} {h : Hp} {a c i : Int} {L : Nat} (qi : inI i) (hL : L ≤ 120) (hr : ∀ j : Nat, j < L → 0 ≤ h 20 j ∧ h 20 j < 120)  : ∀ (n k : Nat) (q m : Int), k + n = L → inI q → 0 ≤ m ∧ m ≤ k → AW K (XM K (some (vI (reF (h 16) (h 20) i n k q m))) h) RX7 cX7_recordOf 9 (some .int) dep 19 [some (vR 12), some (vI (a)), some (vI (c)), some (vI (i)), some (vI ((L : Int))), some (vI (q)), some (vI (m)), some (vI ((k : Int))), none] [] h := by
  intro n
  induction n with
  | zero =>
    intro k q m hk hq hm
    refine AW.iload (pc' := 21) dX7_recordOf_19 rfl ?_
    refine AW.iload (pc' := 23) dX7_recordOf_21 rfl ?_
    refine AW.icmp_ge (tgt := 74) (pc' := 26) dX7_recordOf_23 (by first | assumption | omega | (constructor <;> omega) | (simp only [Int.toNat_natCast]; omega) | exact b2_in _) (by first | assumption | omega | (constructor <;> omega) | (simp only [Int.toNat_natCast]; omega) | exact b2_in _) (fun c23 => ?_) (fun c23 => ?_)
    · refine AW.iload_n (pc' := 75) dX7_recordOf_74 rfl ?_
      refine AW.iconst (pc' := 76) dX7_recordOf_75 ?_
      refine AW.icmp_ne (tgt := 84) (pc' := 79) dX7_recordOf_76 (by first | assumption | omega | (constructor <;> omega) | (simp only [Int.toNat_natCast]; omega) | exact b2_in _) (by first | assumption | omega | (constructor <;> omega) | (simp only [Int.toNat_natCast]; omega) | exact b2_in _) (fun c76 => ?_) (fun c76 => ?_)
      · refine AW.iconst (pc' := 85) dX7_recordOf_84 ?_
        refine AW.iret dX7_recordOf_85 ?_ ?_
        · refine congrArg (fun z : Int => (some (vI z) : Option AV)) ?_
          unfold reF
          first | (rw [if_pos (by omega)]; done) | (rw [if_neg (by omega)])
        · rfl
      · refine AW.iload (pc' := 81) dX7_recordOf_79 rfl ?_
        refine AW.goto (tgt := 85) dX7_recordOf_81 ?_
        refine AW.iret dX7_recordOf_85 ?_ ?_
        · refine congrArg (fun z : Int => (some (vI z) : Option AV)) ?_
          unfold reF
          first | (rw [if_pos (by omega)]; done) | (rw [if_neg (by omega)])
        · rfl
    · omega
  | succ n ih =>
    intro k q m hk hq hm
    have o1 := hr k (by omega)
    refine AW.iload (pc' := 21) dX7_recordOf_19 rfl ?_
    refine AW.iload (pc' := 23) dX7_recordOf_21 rfl ?_
    refine AW.icmp_ge (tgt := 74) (pc' := 26) dX7_recordOf_23 (by first | assumption | omega | (constructor <;> omega) | (simp only [Int.toNat_natCast]; omega) | exact b2_in _) (by first | assumption | omega | (constructor <;> omega) | (simp only [Int.toNat_natCast]; omega) | exact b2_in _) (fun c23 => ?_) (fun c23 => ?_)
    · omega
    · refine AW.aload_n (pc' := 27) dX7_recordOf_26 rfl ?_
      refine AW.getR (pc' := 30) dX7_recordOf_27 ly_12 fX7_33 rfl ?_
      refine AW.iload (pc' := 32) dX7_recordOf_30 rfl ?_
      first | refine AW.ialdN (pc' := 33) dX7_recordOf_32 ly_20 (by first | assumption | omega | (constructor <;> omega) | (simp only [Int.toNat_natCast]; omega) | exact b2_in _) (by decide) (fun r32 => ?_) | refine AW.iald (pc' := 33) dX7_recordOf_32 ly_20 (by first | assumption | omega | (constructor <;> omega) | (simp only [Int.toNat_natCast]; omega) | exact b2_in _) (by first | assumption | omega | (constructor <;> omega) | (simp only [Int.toNat_natCast]; omega) | exact b2_in _) (by decide) (fun r32 => ?_)
      try simp only [Int.toNat_natCast] at r32 ⊢
      refine AW.istore8 (pc' := 35) dX7_recordOf_33 (by decide) rfl ?_
      refine AW.aload_n (pc' := 36) dX7_recordOf_35 rfl ?_
      refine AW.getR (pc' := 39) dX7_recordOf_36 ly_12 fX7_21 rfl ?_
      refine AW.iload (pc' := 41) dX7_recordOf_39 rfl ?_
      first | refine AW.ialdN (pc' := 42) dX7_recordOf_41 ly_16 (by first | assumption | omega | (constructor <;> omega) | (simp only [Int.toNat_natCast]; omega) | exact b2_in _) (by decide) (fun r41 => ?_) | refine AW.iald (pc' := 42) dX7_recordOf_41 ly_16 (by first | assumption | omega | (constructor <;> omega) | (simp only [Int.toNat_natCast]; omega) | exact b2_in _) (by first | assumption | omega | (constructor <;> omega) | (simp only [Int.toNat_natCast]; omega) | exact b2_in _) (by decide) (fun r41 => ?_)
      try simp only [Int.toNat_natCast] at r41 ⊢
      refine AW.iload (pc' := 44) dX7_recordOf_42 rfl ?_
      refine AW.icmp_ge (tgt := 68) (pc' := 47) dX7_recordOf_44 (by first | assumption | omega | (constructor <;> omega) | (simp only [Int.toNat_natCast]; omega) | exact b2_in _) (by first | assumption | omega | (constructor <;> omega) | (simp only [Int.toNat_natCast]; omega) | exact b2_in _) (fun c44 => ?_) (fun c44 => ?_)
      · refine AW.iinc7 (pc' := 71) dX7_recordOf_68 (by decide) rfl ?_
        refine AW.goto (tgt := 19) dX7_recordOf_71 ?_
        first
        | (have z : reF (h 16) (h 20) i (n + 1) k q m = reF (h 16) (h 20) i n (k + 1) (h 16 (h 20 k).toNat) (m + 1) := by
             conv => lhs; unfold reF
             rw [if_pos (by omega), if_neg (by omega)]
           rw [z]
           exact AW.weak (ih (k + 1) _ _ (by omega) (by omega) (by omega)) (by (repeat' first | exact LSub.e | refine LSub.n ?_ | refine LSub.c ?_ ?_) <;> first | rfl | exact congrArg Sum.inl (by first | rfl | omega | (push_cast; omega)) | exact congrArg (fun z : Int => (vL z : AV)) (by first | rfl | omega | (push_cast; omega))))
        | (have z : reF (h 16) (h 20) i (n + 1) k q m = reF (h 16) (h 20) i n (k + 1) q m := by
             conv => lhs; unfold reF
             rw [if_neg (by omega)]
           rw [z]
           exact AW.weak (ih (k + 1) _ _ (by omega) (by omega) (by omega)) (by (repeat' first | exact LSub.e | refine LSub.n ?_ | refine LSub.c ?_ ?_) <;> first | rfl | exact congrArg Sum.inl (by first | rfl | omega | (push_cast; omega)) | exact congrArg (fun z : Int => (vL z : AV)) (by first | rfl | omega | (push_cast; omega))))
      · refine AW.iload (pc' := 49) dX7_recordOf_47 rfl ?_
        refine AW.iload_n (pc' := 50) dX7_recordOf_49 rfl ?_
        refine AW.icmp_ne (tgt := 56) (pc' := 53) dX7_recordOf_50 (by first | assumption | omega | (constructor <;> omega) | (simp only [Int.toNat_natCast]; omega) | exact b2_in _) (by first | assumption | omega | (constructor <;> omega) | (simp only [Int.toNat_natCast]; omega) | exact b2_in _) (fun c50 => ?_) (fun c50 => ?_)
        · refine AW.aload_n (pc' := 57) dX7_recordOf_56 rfl ?_
          refine AW.getR (pc' := 60) dX7_recordOf_57 ly_12 fX7_21 rfl ?_
          refine AW.iload (pc' := 62) dX7_recordOf_60 rfl ?_
          first | refine AW.ialdN (pc' := 63) dX7_recordOf_62 ly_16 (by first | assumption | omega | (constructor <;> omega) | (simp only [Int.toNat_natCast]; omega) | exact b2_in _) (by decide) (fun r62 => ?_) | refine AW.iald (pc' := 63) dX7_recordOf_62 ly_16 (by first | assumption | omega | (constructor <;> omega) | (simp only [Int.toNat_natCast]; omega) | exact b2_in _) (by first | assumption | omega | (constructor <;> omega) | (simp only [Int.toNat_natCast]; omega) | exact b2_in _) (by decide) (fun r62 => ?_)
          try simp only [Int.toNat_natCast] at r62 ⊢
          refine AW.istore5 (pc' := 65) dX7_recordOf_63 (by decide) rfl ?_
          refine AW.iinc6 (pc' := 68) dX7_recordOf_65 (by decide) rfl ?_
          refine AW.iinc7 (pc' := 71) dX7_recordOf_68 (by decide) rfl ?_
          refine AW.goto (tgt := 19) dX7_recordOf_71 ?_
          first
          | (have z : reF (h 16) (h 20) i (n + 1) k q m = reF (h 16) (h 20) i n (k + 1) (h 16 (h 20 k).toNat) (m + 1) := by
               conv => lhs; unfold reF
               rw [if_pos (by omega), if_neg (by omega)]
             rw [z]
             exact AW.weak (ih (k + 1) _ _ (by omega) (by omega) (by omega)) (by (repeat' first | exact LSub.e | refine LSub.n ?_ | refine LSub.c ?_ ?_) <;> first | rfl | exact congrArg Sum.inl (by first | rfl | omega | (push_cast; omega)) | exact congrArg (fun z : Int => (vL z : AV)) (by first | rfl | omega | (push_cast; omega))))
          | (have z : reF (h 16) (h 20) i (n + 1) k q m = reF (h 16) (h 20) i n (k + 1) q m := by
               conv => lhs; unfold reF
               rw [if_neg (by omega)]
             rw [z]
             exact AW.weak (ih (k + 1) _ _ (by omega) (by omega) (by omega)) (by (repeat' first | exact LSub.e | refine LSub.n ?_ | refine LSub.c ?_ ?_) <;> first | rfl | exact congrArg Sum.inl (by first | rfl | omega | (push_cast; omega)) | exact congrArg (fun z : Int => (vL z : AV)) (by first | rfl | omega | (push_cast; omega))))
        · refine AW.iload (pc' := 55) dX7_recordOf_53 rfl ?_
          refine AW.iret dX7_recordOf_55 ?_ ?_
          · refine congrArg (fun z : Int => (some (vI z) : Option AV)) ?_
            unfold reF
            rw [if_pos (by omega), if_pos (by omega)]
          · rfl
set_option maxRecDepth 100000 in
set_option maxHeartbeats 4000000 in
theorem c_X7_recordOf {K : KT} {dep : Nat} {h : Hp} {a c i : Int} (hd : 4 ≤ dep) (hI : IXa h) (hQ : PO (h 12 10) (h 19)) (q2 : inI a) (q3 : inI c) (q4 : inI i) : AMp K yX7_recordOf cX7_recordOf 9 (some .int) dep [vR 12, vI a, vI c, vI i] h (some (vI (reF (h 16) (luF h a c).2 i (luF h a c).1 0 30000 0))) (fun x => EX [20] h x) := by
  refine AM.of (own := RX7) (ls := [some (vR 12), some (vI a), some (vI c), some (vI i), none, none, none, none, none]) rfl (by decide +kernel) (by exact Nat.le_of_ble_eq_true rfl) rfl (fun hO => ?_)
  have g6 := hI.2.2.2.1
  have g7 := hI.2.2.2.2.1
  have g8 := hI.2.1.2.1
  refine AW.aload_n (pc' := 1) dX7_recordOf_0 rfl ?_
  refine AW.iload_n (pc' := 2) dX7_recordOf_1 rfl ?_
  refine AW.iload_n (pc' := 3) dX7_recordOf_2 rfl ?_
  refine AW.invQ2 (pc' := 6) dX7_recordOf_3 mlX7_86 mX7_lineUp ly_12 rfl (c_X7_lineUp (dep := dep - 1) (by first | assumption | omega | (constructor <;> omega) | (simp only [Int.toNat_natCast]; omega) | exact b2_in _) (by first | assumption | omega | (constructor <;> omega) | (simp only [Int.toNat_natCast]; omega) | exact b2_in _) (by first | assumption | omega | (constructor <;> omega) | (simp only [Int.toNat_natCast]; omega) | exact b2_in _) (by first | assumption | omega | (constructor <;> omega) | (simp only [Int.toNat_natCast]; omega) | exact b2_in _) (by first | assumption | omega | (constructor <;> omega) | (simp only [Int.toNat_natCast]; omega) | exact b2_in _)) (fun h3 s3 => ?_)
  refine AW.istore4 (pc' := 8) dX7_recordOf_6 (by decide) rfl ?_
  refine AW.sipush (pc' := 11) dX7_recordOf_8 (by decide) ?_
  refine AW.istore5 (pc' := 13) dX7_recordOf_11 (by decide) rfl ?_
  refine AW.iconst (pc' := 14) dX7_recordOf_13 ?_
  refine AW.istore6 (pc' := 16) dX7_recordOf_14 (by decide) rfl ?_
  refine AW.iconst (pc' := 17) dX7_recordOf_16 ?_
  refine AW.istore7 (pc' := 19) dX7_recordOf_17 (by decide) rfl ?_
  obtain ⟨e3, t3⟩ := s3
  have li := luL_in (co := h 14) (sh := h 17) (th := h 7) (ye := h 15) (tm := h 16) (c := a) (b := c) hQ (h 12 10).toNat 0 (0, h 20) (by omega) (Nat.le_refl _) (fun j hj => absurd hj (Nat.not_lt_zero _))
  have hr : ∀ j : Nat, j < (luF h a c).1 → 0 ≤ h3 20 j ∧ h3 20 j < 120 := fun j hj => by rw [t3]; have := li.2 j hj; simp only [luF, luX]; omega
  have z := lp_X7_recordOf (K := K) (dep := dep) (h := h3) (a := a) (c := c) (i := i) (L := (luF h a c).1) (by omega) (by have := li.1; simp only [luF, luX]; omega) hr (luF h a c).1 0 30000 0 (by omega) (by decide) (by omega)
  rw [t3, e3 16 rfl] at z
  exact AW.weak (AW.post z (fun x hx => by rw [← hx]; exact e3)) (by (repeat' first | exact LSub.e | refine LSub.n ?_ | refine LSub.c ?_ ?_) <;> first | rfl | exact congrArg Sum.inl (by first | rfl | omega | omega) | exact congrArg (fun z : Int => (vL z : AV)) (by first | rfl | omega | omega))
set_option maxRecDepth 100000 in
set_option maxHeartbeats 4000000 in
theorem c_X11_records {K : KT} {dep : Nat} {h : Hp} {a c i : Int} (hd : 5 ≤ dep) (hI : IXa h) (hQ : PO (h 12 10) (h 19)) (q2 : inI a) (q3 : inI c) (q4 : inI i) : AMp K yX11_records cX11_records 4 (some .int) dep [vR 0, vI a, vI c, vI i] h (some (vI (if ¬ ((0 ≤ a ∧ a < h 10 1) ∧ (0 ≤ c ∧ c ≤ 99) ∧ -1 ≤ i) then -1 else reF (h 16) (luF h a c).2 i (luF h a c).1 0 30000 0))) (fun x => EX [20] h x) := by
  refine AM.of (own := RX11) (ls := [some (vR 0), some (vI a), some (vI c), some (vI i)]) rfl (by decide +kernel) (by exact Nat.le_of_ble_eq_true rfl) rfl (fun hO => ?_)
  refine AW.aload_n (pc' := 1) dX11_records_0 rfl ?_
  refine AW.getR (pc' := 4) dX11_records_1 ly_0 fX11_26 rfl ?_
  refine AW.iload_n (pc' := 5) dX11_records_4 rfl ?_
  refine AW.invV1 (pc' := 8) dX11_records_5 mlX11_133 mX4_has ly_10 rfl (c_X4_has (dep := dep - 1) (by first | assumption | omega | (constructor <;> omega) | (simp only [Int.toNat_natCast]; omega) | exact b2_in _)) ?_
  refine AW.ifb_eq (tgt := 26) (pc' := 11) dX11_records_8 (fun c8 => ?_) (fun c8 => ?_)
  · refine AW.iconst (pc' := 27) dX11_records_26 ?_
    refine AW.iret dX11_records_27 ?_ ?_
    · refine congrArg (fun z : Int => (some (vI z) : Option AV)) ?_
      first | (rw [if_pos (by omega)]; done) | (rw [if_neg (by omega)])
    · first | exact EX.rf | exact s35
  · refine AW.iload_n (pc' := 12) dX11_records_11 rfl ?_
    refine AW.iconst (pc' := 13) dX11_records_12 ?_
    refine AW.bipush (pc' := 15) dX11_records_13 (by decide) ?_
    refine AW.invS3 (pc' := 18) dX11_records_15 mlX11_89 mX11_within (c_X11_within (dep := dep - 1) (by first | assumption | omega | (constructor <;> omega) | (simp only [Int.toNat_natCast]; omega) | exact b2_in _) (by first | assumption | omega | (constructor <;> omega) | (simp only [Int.toNat_natCast]; omega) | exact b2_in _) (by first | assumption | omega | (constructor <;> omega) | (simp only [Int.toNat_natCast]; omega) | exact b2_in _)) ?_
    refine AW.ifb_eq (tgt := 26) (pc' := 21) dX11_records_18 (fun c18 => ?_) (fun c18 => ?_)
    · refine AW.iconst (pc' := 27) dX11_records_26 ?_
      refine AW.iret dX11_records_27 ?_ ?_
      · refine congrArg (fun z : Int => (some (vI z) : Option AV)) ?_
        first | (rw [if_pos (by omega)]; done) | (rw [if_neg (by omega)])
      · first | exact EX.rf | exact s35
    · refine AW.iload_n (pc' := 22) dX11_records_21 rfl ?_
      refine AW.iconst (pc' := 23) dX11_records_22 ?_
      refine AW.icmp_ge (tgt := 28) (pc' := 26) dX11_records_23 (by first | assumption | omega | (constructor <;> omega) | (simp only [Int.toNat_natCast]; omega) | exact b2_in _) (by first | assumption | omega | (constructor <;> omega) | (simp only [Int.toNat_natCast]; omega) | exact b2_in _) (fun c23 => ?_) (fun c23 => ?_)
      · refine AW.aload_n (pc' := 29) dX11_records_28 rfl ?_
        refine AW.getR (pc' := 32) dX11_records_29 ly_0 fX11_35 rfl ?_
        refine AW.iload_n (pc' := 33) dX11_records_32 rfl ?_
        refine AW.iload_n (pc' := 34) dX11_records_33 rfl ?_
        refine AW.iload_n (pc' := 35) dX11_records_34 rfl ?_
        refine AW.invQ3 (pc' := 38) dX11_records_35 mlX11_274 mX7_recordOf ly_12 rfl (c_X7_recordOf (dep := dep - 1) (by first | assumption | omega | (constructor <;> omega) | (simp only [Int.toNat_natCast]; omega) | exact b2_in _) (by first | assumption | omega | (constructor <;> omega) | (simp only [Int.toNat_natCast]; omega) | exact b2_in _) (by first | assumption | omega | (constructor <;> omega) | (simp only [Int.toNat_natCast]; omega) | exact b2_in _) (by first | assumption | omega | (constructor <;> omega) | (simp only [Int.toNat_natCast]; omega) | exact b2_in _) (by first | assumption | omega | (constructor <;> omega) | (simp only [Int.toNat_natCast]; omega) | exact b2_in _) (by first | assumption | omega | (constructor <;> omega) | (simp only [Int.toNat_natCast]; omega) | exact b2_in _)) (fun h35 s35 => ?_)
        refine AW.iret dX11_records_38 ?_ ?_
        · refine congrArg (fun z : Int => (some (vI z) : Option AV)) ?_
          first | (rw [if_pos (by omega)]; done) | (rw [if_neg (by omega)])
        · first | exact EX.rf | exact s35
      · refine AW.iconst (pc' := 27) dX11_records_26 ?_
        refine AW.iret dX11_records_27 ?_ ?_
        · refine congrArg (fun z : Int => (some (vI z) : Option AV)) ?_
          first | (rw [if_pos (by omega)]; done) | (rw [if_neg (by omega)])
        · first | exact EX.rf | exact s35
