/-! the class: races, bounds, gain -/
abbrev lastP (n : Int) (co ye ord : Nat → Int) (k : Nat) : Prop := n ≤ (k : Int) + 1 ∨ ¬ (co (ord (k + 1)).toNat = co (ord k).toNat ∧ ye (ord (k + 1)).toNat = ye (ord k).toNat)
/-- a run of the order of races: old and new ones of its race, at the race's end its gain -/
def irS (n : Int) (co ye ord sh gv lv : Nat → Int) (k : Nat) (s : T4 × (Int × Int)) : T4 × (Int × Int) :=
  if lastP n co ye ord k then ((0, 0, 0, 0), (if tgain (seenT sh gv lv (ord k).toNat s.1) = -2000000000 then s.2 else (s.2.1 + 1, s.2.2 + tgain (seenT sh gv lv (ord k).toNat s.1)))) else (seenT sh gv lv (ord k).toNat s.1, s.2)
abbrev irX (h : Hp) : Nat → T4 × (Int × Int) → T4 × (Int × Int) := irS (h 12 10) (h 14) (h 15) (h 19) (h 17) (h 8) (lvX h)
/-- how many races have both, the sum -/
def irF (h : Hp) : Int × Int := (lp (irX h) (h 12 10).toNat 0 ((0, 0, 0, 0), (0, 0))).2
theorem irX_in {h : Hp} (hI : IXa h) (hQ : PO (h 12 10) (h 19)) {k : Nat} {s : T4 × (Int × Int)} (hk : (k : Int) < h 12 10) (h1 : TI s.1 k) (h2 : PI s.2 k) : TI (irX h k s).1 ((k + 1 : Nat) : Int) ∧ PI (irX h k s).2 ((k + 1 : Nat) : Int) := by
  have o1 := hQ k hk
  have lv1 := lvl_in hI.2.2.2 hI.2.2.1 (r := (h 19 k).toNat) (by omega)
  have t1 : TI (seenT (h 17) (h 8) (lvX h) (h 19 k).toNat s.1) ((k + 1 : Nat) : Int) := seenT_in h1 lv1.2.2.1 lv1.2.2.2
  have t2 := tgain_in t1
  obtain ⟨p1, p2, p3, p4⟩ := h2
  unfold irX irS
  by_cases c : lastP (h 12 10) (h 14) (h 15) (h 19) k
  · rw [if_pos c]
    refine ⟨TI0 (by omega), ?_⟩
    by_cases z : tgain (seenT (h 17) (h 8) (lvX h) (h 19 k).toNat s.1) = -2000000000
    · simp only [if_pos z]
      exact ⟨p1, by push_cast; omega, p3, p4⟩
    · simp only [if_neg z]
      refine ⟨?_, ?_, ?_, ?_⟩ <;> simp only <;> (try push_cast) <;> omega
  · rw [if_neg c]
    exact ⟨t1, p1, by push_cast; omega, p3, p4⟩
theorem irF_in {h : Hp} (hI : IXa h) (hQ : PO (h 12 10) (h 19)) : PI (irF h) 120 := by
  have g := hI.2.2.2.2.1
  have key : ∀ (n k : Nat) (s : T4 × (Int × Int)), (k : Int) + n = h 12 10 → TI s.1 k → PI s.2 k → PI (lp (irX h) n k s).2 120 := by
    intro n
    induction n with
    | zero => intro k s hk h1 h2; exact ⟨h2.1, by have := h2.2.1; show s.2.1 ≤ _; omega, h2.2.2.1, h2.2.2.2⟩
    | succ n ih =>
      intro k s hk h1 h2
      have q := irX_in hI hQ (by omega) h1 h2
      unfold lp
      exact ih (k + 1) _ (by omega) q.1 q.2
  exact key _ 0 _ (by have := hI.2.2.2.1; omega) (TI0 (by decide)) ⟨by decide, by decide, by decide, by decide⟩
theorem q18 {ks : List Nat} {h h1 : Hp} (e : EX ks h h1) (hk : ks.all (fun k => decide (20 ≤ k)) = true) : ∀ k : Nat, k < 20 → h1 k = h k := fun k z => e k (by
    cases z2 : ks.contains k with
    | false => rfl
    | true =>
      have := List.all_eq_true.mp hk k (List.contains_iff_mem.mp z2)
      simp at this
      omega)
theorem irF_ex {ks : List Nat} {h h1 : Hp} (e : EX ks h h1) (hk : ks.all (fun k => decide (20 ≤ k)) = true) : irF h1 = irF h := by
  have q := q18 e hk
  simp only [irF, irX, lvX]
  rw [q 8 (by decide), q 11 (by decide), q 12 (by decide), q 14 (by decide), q 15 (by decide), q 16 (by decide), q 17 (by decide), q 19 (by decide)]
theorem prX_ex {ks : List Nat} {h h1 : Hp} (e : EX ks h h1) (hk : ks.all (fun k => decide (20 ≤ k)) = true) : prX h1 = prX h := by
  have q := q18 e hk
  simp only [prX, paX, lvX]
  rw [q 8 (by decide), q 11 (by decide), q 12 (by decide), q 13 (by decide), q 14 (by decide), q 16 (by decide), q 17 (by decide), q 18 (by decide)]
set_option maxRecDepth 100000 in
set_option maxHeartbeats 4000000 in
theorem c_X2_isLastOfRace {K : KT} {dep : Nat} {h : Hp} {a : Int} (hd : 1 ≤ dep) (hI : IXa h) (hQ : PO (h 12 10) (h 19)) (q0 : 0 ≤ a ∧ a < h 12 10) : AM K yX2_isLastOfRace cX2_isLastOfRace 4 (some .boolean) dep [vR 35, vI a] h (some (vI (b2 (lastP (h 12 10) (h 14) (h 15) (h 19) a.toNat)))) (h) := by
  refine AM.of (own := RX2) (ls := [some (vR 35), some (vI a), none, none]) rfl (by decide +kernel) (by exact Nat.le_of_ble_eq_true rfl) rfl (fun hO => ?_)
  have g6 := hI.2.2.2.1
  have g7 := hI.2.2.2.2.1
  have g8 := hI.2.1.2.1
  have o1 := hQ a.toNat (by omega)
  have ea : (a + 1).toNat = a.toNat + 1 := by omega
  have o2 : a + 1 < h 12 10 → 0 ≤ h 19 (a.toNat + 1) ∧ h 19 (a.toNat + 1) < h 12 10 := fun z => hQ (a.toNat + 1) (by omega)
  refine AW.iload_n (pc' := 1) dX2_isLastOfRace_0 rfl ?_
  refine AW.iconst (pc' := 2) dX2_isLastOfRace_1 ?_
  refine AW.iadd (pc' := 3) dX2_isLastOfRace_2 ?_
  refine AW.aload_n (pc' := 4) dX2_isLastOfRace_3 rfl ?_
  refine AW.getR (pc' := 7) dX2_isLastOfRace_4 ly_35 fX2_29 rfl ?_
  refine AW.getI (pc' := 10) dX2_isLastOfRace_7 ly_12 fX2_55 rfl (fun r7 => ?_)
  try simp only [ea] at r7 ⊢
  refine AW.icmp_lt (tgt := 15) (pc' := 13) dX2_isLastOfRace_10 (by first | assumption | omega | (constructor <;> omega) | (simp only [Int.toNat_natCast]; omega) | exact b2_in _) (by first | assumption | omega | (constructor <;> omega) | (simp only [Int.toNat_natCast]; omega) | exact b2_in _) (fun c10 => ?_) (fun c10 => ?_)
  · have o3 := o2 (by omega)
    refine AW.aload_n (pc' := 16) dX2_isLastOfRace_15 rfl ?_
    refine AW.getR (pc' := 19) dX2_isLastOfRace_16 ly_35 fX2_29 rfl ?_
    refine AW.getR (pc' := 22) dX2_isLastOfRace_19 ly_12 fX2_83 rfl ?_
    refine AW.iload_n (pc' := 23) dX2_isLastOfRace_22 rfl ?_
    first | refine AW.ialdN (pc' := 24) dX2_isLastOfRace_23 ly_19 (by first | assumption | omega | (constructor <;> omega) | (simp only [Int.toNat_natCast]; omega) | exact b2_in _) (by decide) (fun r23 => ?_) | refine AW.iald (pc' := 24) dX2_isLastOfRace_23 ly_19 (by first | assumption | omega | (constructor <;> omega) | (simp only [Int.toNat_natCast]; omega) | exact b2_in _) (by first | assumption | omega | (constructor <;> omega) | (simp only [Int.toNat_natCast]; omega) | exact b2_in _) (by decide) (fun r23 => ?_)
    try simp only [ea] at r23 ⊢
    refine AW.istore2n (pc' := 25) dX2_isLastOfRace_24 (by decide) rfl ?_
    refine AW.aload_n (pc' := 26) dX2_isLastOfRace_25 rfl ?_
    refine AW.getR (pc' := 29) dX2_isLastOfRace_26 ly_35 fX2_29 rfl ?_
    refine AW.getR (pc' := 32) dX2_isLastOfRace_29 ly_12 fX2_83 rfl ?_
    refine AW.iload_n (pc' := 33) dX2_isLastOfRace_32 rfl ?_
    refine AW.iconst (pc' := 34) dX2_isLastOfRace_33 ?_
    refine AW.iadd (pc' := 35) dX2_isLastOfRace_34 ?_
    first | refine AW.ialdN (pc' := 36) dX2_isLastOfRace_35 ly_19 (by first | assumption | omega | (constructor <;> omega) | (simp only [Int.toNat_natCast]; omega) | exact b2_in _) (by decide) (fun r35 => ?_) | refine AW.iald (pc' := 36) dX2_isLastOfRace_35 ly_19 (by first | assumption | omega | (constructor <;> omega) | (simp only [Int.toNat_natCast]; omega) | exact b2_in _) (by first | assumption | omega | (constructor <;> omega) | (simp only [Int.toNat_natCast]; omega) | exact b2_in _) (by decide) (fun r35 => ?_)
    try simp only [ea] at r35 ⊢
    refine AW.istore3n (pc' := 37) dX2_isLastOfRace_36 (by decide) rfl ?_
    refine AW.aload_n (pc' := 38) dX2_isLastOfRace_37 rfl ?_
    refine AW.getR (pc' := 41) dX2_isLastOfRace_38 ly_35 fX2_29 rfl ?_
    refine AW.iload_n (pc' := 42) dX2_isLastOfRace_41 rfl ?_
    refine AW.aload_n (pc' := 43) dX2_isLastOfRace_42 rfl ?_
    refine AW.getR (pc' := 46) dX2_isLastOfRace_43 ly_35 fX2_29 rfl ?_
    refine AW.getR (pc' := 49) dX2_isLastOfRace_46 ly_12 fX2_100 rfl ?_
    refine AW.iload_n (pc' := 50) dX2_isLastOfRace_49 rfl ?_
    first | refine AW.ialdN (pc' := 51) dX2_isLastOfRace_50 ly_14 (by first | assumption | omega | (constructor <;> omega) | (simp only [Int.toNat_natCast]; omega) | exact b2_in _) (by decide) (fun r50 => ?_) | refine AW.iald (pc' := 51) dX2_isLastOfRace_50 ly_14 (by first | assumption | omega | (constructor <;> omega) | (simp only [Int.toNat_natCast]; omega) | exact b2_in _) (by first | assumption | omega | (constructor <;> omega) | (simp only [Int.toNat_natCast]; omega) | exact b2_in _) (by decide) (fun r50 => ?_)
    try simp only [ea] at r50 ⊢
    refine AW.aload_n (pc' := 52) dX2_isLastOfRace_51 rfl ?_
    refine AW.getR (pc' := 55) dX2_isLastOfRace_52 ly_35 fX2_29 rfl ?_
    refine AW.getR (pc' := 58) dX2_isLastOfRace_55 ly_12 fX2_103 rfl ?_
    refine AW.iload_n (pc' := 59) dX2_isLastOfRace_58 rfl ?_
    first | refine AW.ialdN (pc' := 60) dX2_isLastOfRace_59 ly_15 (by first | assumption | omega | (constructor <;> omega) | (simp only [Int.toNat_natCast]; omega) | exact b2_in _) (by decide) (fun r59 => ?_) | refine AW.iald (pc' := 60) dX2_isLastOfRace_59 ly_15 (by first | assumption | omega | (constructor <;> omega) | (simp only [Int.toNat_natCast]; omega) | exact b2_in _) (by first | assumption | omega | (constructor <;> omega) | (simp only [Int.toNat_natCast]; omega) | exact b2_in _) (by decide) (fun r59 => ?_)
    try simp only [ea] at r59 ⊢
    refine AW.invV3 (pc' := 63) dX2_isLastOfRace_60 mlX2_106 mX7_isOfRace ly_12 rfl (c_X7_isOfRace (dep := dep - 1) (by first | assumption | omega | (constructor <;> omega) | (simp only [Int.toNat_natCast]; omega) | exact b2_in _) (by first | assumption | omega | (constructor <;> omega) | (simp only [Int.toNat_natCast]; omega) | exact b2_in _) (by first | assumption | omega | (constructor <;> omega) | (simp only [Int.toNat_natCast]; omega) | exact b2_in _)) ?_
    try simp only [Int.toNat_natCast, ea]
    refine AW.ifb_ne (tgt := 70) (pc' := 66) dX2_isLastOfRace_63 (fun c63 => ?_) (fun c63 => ?_)
    · refine AW.iconst (pc' := 71) dX2_isLastOfRace_70 ?_
      refine AW.zret dX2_isLastOfRace_71 ?_ ?_ (by first | exact Or.inl rfl | exact Or.inr rfl | exact b2_01 _ | assumption | (subst_vars; omega))
      · first | exact congrArg (fun z : Int => (some (vI z) : Option AV)) (b2_t (by unfold lastP; omega)) | exact congrArg (fun z : Int => (some (vI z) : Option AV)) (b2_f (by unfold lastP; omega))
      · rfl
    · refine AW.iconst (pc' := 67) dX2_isLastOfRace_66 ?_
      refine AW.goto (tgt := 71) dX2_isLastOfRace_67 ?_
      refine AW.zret dX2_isLastOfRace_71 ?_ ?_ (by first | exact Or.inl rfl | exact Or.inr rfl | exact b2_01 _ | assumption | (subst_vars; omega))
      · first | exact congrArg (fun z : Int => (some (vI z) : Option AV)) (b2_t (by unfold lastP; omega)) | exact congrArg (fun z : Int => (some (vI z) : Option AV)) (b2_f (by unfold lastP; omega))
      · rfl
  · refine AW.iconst (pc' := 14) dX2_isLastOfRace_13 ?_
    refine AW.zret dX2_isLastOfRace_14 ?_ ?_ (by first | exact Or.inl rfl | exact Or.inr rfl | exact b2_01 _ | assumption | (subst_vars; omega))
    · first | exact congrArg (fun z : Int => (some (vI z) : Option AV)) (b2_t (by unfold lastP; omega)) | exact congrArg (fun z : Int => (some (vI z) : Option AV)) (b2_f (by unfold lastP; omega))
    · rfl
set_option maxRecDepth 100000 in
set_option maxHeartbeats 4000000 in
theorem lp_X2_inRaces {K : KT} {X : XT} {dep : Nat} {h : Hp} (hI : IXa h) (hQ : PO (h 12 10) (h 19)) (hd : 4 ≤ dep) : ∀ (n k : Nat) (s : T4 × (Int × Int)) (h1 : Hp), (k : Int) + n = h 12 10 → EX [39] h h1 → tal h1 = s.1 → TI s.1 k → PI s.2 k → (∀ h2 : Hp, EX [39] h h2 → AW K X RX2 cX2_inRaces 7 (some .int) dep 107 [some (vR 35), some (vL ((lp (irX h) n k s).2.2)), none, some (vI ((lp (irX h) n k s).2.1)), none, none, none] [] h2) → AW K X RX2 cX2_inRaces 7 (some .int) dep 14 [some (vR 35), some (vL (s.2.2)), none, some (vI (s.2.1)), some (vI ((k : Int))), none, none] [] h1 := by
  have g6 := hI.2.2.2.1
  have g7 := hI.2.2.2.2.1
  have g8 := hI.2.1.2.1
  intro n
  induction n with
  | zero =>
    intro k s h1 hk e1 t1 i0 i1 kk
    have w1 := e1 1 rfl
    have w4 := e1 4 rfl
    have w5 := e1 5 rfl
    have w6 := e1 6 rfl
    have w7 := e1 7 rfl
    have w8 := e1 8 rfl
    have w10 := e1 10 rfl
    have w11 := e1 11 rfl
    have w12 := e1 12 rfl
    have w13 := e1 13 rfl
    have w14 := e1 14 rfl
    have w15 := e1 15 rfl
    have w16 := e1 16 rfl
    have w17 := e1 17 rfl
    have w18 := e1 18 rfl
    have w19 := e1 19 rfl
    have hI_w := hI.ex e1 rfl
    refine AW.iload (pc' := 16) dX2_inRaces_14 rfl ?_
    refine AW.aload_n (pc' := 17) dX2_inRaces_16 rfl ?_
    refine AW.getR (pc' := 20) dX2_inRaces_17 ly_35 fX2_29 rfl ?_
    refine AW.getI (pc' := 23) dX2_inRaces_20 ly_12 fX2_55 rfl (fun r20 => ?_)
    try simp only [w1, w4, w5, w6, w7, w8, w10, w11, w12, w13, w14, w15, w16, w17, w18, w19] at r20 ⊢
    refine AW.icmp_ge (tgt := 107) (pc' := 26) dX2_inRaces_23 (by first | assumption | omega | (constructor <;> omega) | (simp only [Int.toNat_natCast]; omega) | exact b2_in _) (by first | assumption | omega | (constructor <;> omega) | (simp only [Int.toNat_natCast]; omega) | exact b2_in _) (fun c23 => ?_) (fun c23 => ?_)
    · exact AW.weak (kk h1 e1) (by (repeat' first | exact LSub.e | refine LSub.n ?_ | refine LSub.c ?_ ?_) <;> first | rfl | exact congrArg Sum.inl (by first | rfl | omega | omega) | exact congrArg (fun z : Int => (vL z : AV)) (by first | rfl | omega | omega))
    · omega
  | succ n ih =>
    intro k s h1 hk e1 t1 i0 i1 kk
    have w1 := e1 1 rfl
    have w4 := e1 4 rfl
    have w5 := e1 5 rfl
    have w6 := e1 6 rfl
    have w7 := e1 7 rfl
    have w8 := e1 8 rfl
    have w10 := e1 10 rfl
    have w11 := e1 11 rfl
    have w12 := e1 12 rfl
    have w13 := e1 13 rfl
    have w14 := e1 14 rfl
    have w15 := e1 15 rfl
    have w16 := e1 16 rfl
    have w17 := e1 17 rfl
    have w18 := e1 18 rfl
    have w19 := e1 19 rfl
    have hI_w := hI.ex e1 rfl
    have v1 := w1
    have v4 := w4
    have v5 := w5
    have v6 := w6
    have v7 := w7
    have v8 := w8
    have v10 := w10
    have v11 := w11
    have v12 := w12
    have v13 := w13
    have v14 := w14
    have v15 := w15
    have v16 := w16
    have v17 := w17
    have v18 := w18
    have v19 := w19
    have hkr : (k : Int) < h 12 10 := by omega
    have g12 : h1 12 10 = h 12 10 := by rw [w12]
    have o1 := hQ k hkr
    have ii := irX_in hI hQ hkr i0 i1
    have q1 : TI (tal h1) 900 := by rw [t1]; exact TI.up i0 (by omega)
    have lv1 := lvl_in hI.2.2.2 hI.2.2.1 (r := (h 19 k).toNat) (by omega)
    have s1 : TI (seenT (h 17) (h 8) (lvX h) (h 19 k).toNat s.1) ((k + 1 : Nat) : Int) := seenT_in i0 lv1.2.2.1 lv1.2.2.2
    have tg1 := tgain_in s1
    obtain ⟨p1, p2, p3, p4⟩ := i1
    refine AW.iload (pc' := 16) dX2_inRaces_14 rfl ?_
    refine AW.aload_n (pc' := 17) dX2_inRaces_16 rfl ?_
    refine AW.getR (pc' := 20) dX2_inRaces_17 ly_35 fX2_29 rfl ?_
    refine AW.getI (pc' := 23) dX2_inRaces_20 ly_12 fX2_55 rfl (fun r20 => ?_)
    try simp only [w1, w4, w5, w6, w7, w8, w10, w11, w12, w13, w14, w15, w16, w17, w18, w19, v1, v4, v5, v6, v7, v8, v10, v11, v12, v13, v14, v15, v16, v17, v18, v19, Int.toNat_natCast] at r20 ⊢
    refine AW.icmp_ge (tgt := 107) (pc' := 26) dX2_inRaces_23 (by first | assumption | omega | (constructor <;> omega) | (simp only [Int.toNat_natCast]; omega) | exact b2_in _) (by first | assumption | omega | (constructor <;> omega) | (simp only [Int.toNat_natCast]; omega) | exact b2_in _) (fun c23 => ?_) (fun c23 => ?_)
    · omega
    · refine AW.aload_n (pc' := 27) dX2_inRaces_26 rfl ?_
      refine AW.getR (pc' := 30) dX2_inRaces_27 ly_35 fX2_29 rfl ?_
      refine AW.getR (pc' := 33) dX2_inRaces_30 ly_12 fX2_83 rfl ?_
      refine AW.iload (pc' := 35) dX2_inRaces_33 rfl ?_
      first | refine AW.ialdN (pc' := 36) dX2_inRaces_35 ly_19 (by first | assumption | omega | (constructor <;> omega) | (simp only [Int.toNat_natCast]; omega) | exact b2_in _) (by decide) (fun r35 => ?_) | refine AW.iald (pc' := 36) dX2_inRaces_35 ly_19 (by first | assumption | omega | (constructor <;> omega) | (simp only [Int.toNat_natCast]; omega) | exact b2_in _) (by first | assumption | omega | (constructor <;> omega) | (simp only [Int.toNat_natCast]; omega) | exact b2_in _) (by decide) (fun r35 => ?_)
      try simp only [w1, w4, w5, w6, w7, w8, w10, w11, w12, w13, w14, w15, w16, w17, w18, w19, v1, v4, v5, v6, v7, v8, v10, v11, v12, v13, v14, v15, v16, v17, v18, v19, Int.toNat_natCast] at r35 ⊢
      refine AW.istore5 (pc' := 38) dX2_inRaces_36 (by decide) rfl ?_
      refine AW.aload_n (pc' := 39) dX2_inRaces_38 rfl ?_
      refine AW.iload (pc' := 41) dX2_inRaces_39 rfl ?_
      refine AW.invQ1v (pc' := 44) dX2_inRaces_41 mlX2_86 mX2_addSeen ly_35 rfl (c_X2_addSeen (dep := dep - 1) (by first | assumption | omega | (constructor <;> omega) | (simp only [Int.toNat_natCast]; omega) | exact b2_in _) (by first | assumption | omega | (constructor <;> omega) | (simp only [Int.toNat_natCast]; omega) | exact b2_in _) (by first | assumption | omega | (constructor <;> omega) | (simp only [Int.toNat_natCast]; omega) | exact b2_in _) (by first | assumption | omega | (constructor <;> omega) | (simp only [Int.toNat_natCast]; omega) | exact b2_in _)) (fun h41 s41 => ?_)
      try simp only [Int.toNat_natCast, w1, w4, w5, w6, w7, w8, w10, w11, w12, w13, w14, w15, w16, w17, w18, w19, v1, v4, v5, v6, v7, v8, v10, v11, v12, v13, v14, v15, v16, v17, v18, v19, Int.toNat_natCast]
      obtain ⟨e2, t2⟩ := s41
      have e3 := e1.tr e2
      simp only [w1, w4, w5, w6, w7, w8, w10, w11, w12, w13, w14, w15, w16, w17, w18, w19] at t2
      rw [t1] at t2
      have t3 : tal h41 = seenT (h 17) (h 8) (lvX h) (h 19 k).toNat s.1 := t2
      have q3 : TI (tal h41) 1000 := by rw [t3]; exact TI.up s1 (by omega)
      have hQ3 : PO (h41 12 10) (h41 19) := by rw [e3 12 rfl, e3 19 rfl]; exact hQ
      have g13 : h41 12 10 = h 12 10 := by rw [e3 12 rfl]
      have v1 := e3 1 rfl
      have v4 := e3 4 rfl
      have v5 := e3 5 rfl
      have v6 := e3 6 rfl
      have v7 := e3 7 rfl
      have v8 := e3 8 rfl
      have v10 := e3 10 rfl
      have v11 := e3 11 rfl
      have v12 := e3 12 rfl
      have v13 := e3 13 rfl
      have v14 := e3 14 rfl
      have v15 := e3 15 rfl
      have v16 := e3 16 rfl
      have v17 := e3 17 rfl
      have v18 := e3 18 rfl
      have v19 := e3 19 rfl
      have hI_v := hI.ex e3 rfl
      refine AW.aload_n (pc' := 45) dX2_inRaces_44 rfl ?_
      refine AW.iload (pc' := 47) dX2_inRaces_45 rfl ?_
      refine AW.invV1 (pc' := 50) dX2_inRaces_47 mlX2_90 mX2_isLastOfRace ly_35 rfl (c_X2_isLastOfRace (dep := dep - 1) (by first | assumption | omega | (constructor <;> omega) | (simp only [Int.toNat_natCast]; omega) | exact b2_in _) (by first | assumption | omega | (constructor <;> omega) | (simp only [Int.toNat_natCast]; omega) | exact b2_in _) (by first | assumption | omega | (constructor <;> omega) | (simp only [Int.toNat_natCast]; omega) | exact b2_in _) (by first | assumption | omega | (constructor <;> omega) | (simp only [Int.toNat_natCast]; omega) | exact b2_in _)) ?_
      try simp only [Int.toNat_natCast, w1, w4, w5, w6, w7, w8, w10, w11, w12, w13, w14, w15, w16, w17, w18, w19, v1, v4, v5, v6, v7, v8, v10, v11, v12, v13, v14, v15, v16, v17, v18, v19, Int.toNat_natCast]
      refine AW.ifb_eq (tgt := 101) (pc' := 53) dX2_inRaces_50 (fun c50 => ?_) (fun c50 => ?_)
      · refine AW.iinc4 (pc' := 104) dX2_inRaces_101 (by decide) rfl ?_
        refine AW.goto (tgt := 14) dX2_inRaces_104 ?_
        have z : irX h k s = (seenT (h 17) (h 8) (lvX h) (h 19 k).toNat s.1, s.2) := by
          simp only [irX, irS]
          rw [if_neg c50]
        rw [z] at ii
        refine AW.weak (ih (k + 1) (seenT (h 17) (h 8) (lvX h) (h 19 k).toNat s.1, s.2) _ (by omega) e3 t3 ii.1 ii.2 (by have y := kk; unfold lp at y; rw [z] at y; exact y)) (by (repeat' first | exact LSub.e | refine LSub.n ?_ | refine LSub.c ?_ ?_) <;> first | rfl | exact congrArg Sum.inl (by first | rfl | omega | (push_cast; omega)) | exact congrArg (fun z : Int => (vL z : AV)) (by first | rfl | omega | (push_cast; omega)))
      · refine AW.aload_n (pc' := 54) dX2_inRaces_53 rfl ?_
        refine AW.getR (pc' := 57) dX2_inRaces_54 ly_35 fX2_12 rfl ?_
        refine AW.invV0 (pc' := 60) dX2_inRaces_57 mlX2_93 mX10_gained ly_39 rfl (c_X10_gained (dep := dep - 1) (by first | assumption | omega | (constructor <;> omega) | (simp only [Int.toNat_natCast]; omega) | exact b2_in _) (by first | assumption | omega | (constructor <;> omega) | (simp only [Int.toNat_natCast]; omega) | exact b2_in _)) ?_
        try simp only [Int.toNat_natCast, w1, w4, w5, w6, w7, w8, w10, w11, w12, w13, w14, w15, w16, w17, w18, w19, v1, v4, v5, v6, v7, v8, v10, v11, v12, v13, v14, v15, v16, v17, v18, v19, Int.toNat_natCast]
        rw [t3]
        refine AW.istore6 (pc' := 62) dX2_inRaces_60 (by decide) rfl ?_
        refine AW.lload_n (pc' := 63) dX2_inRaces_62 rfl ?_
        refine AW.iload (pc' := 65) dX2_inRaces_63 rfl ?_
        refine AW.ldc (v := -2000000000) (pc' := 67) dX2_inRaces_65 kX2_73 ?_
        refine AW.icmp_ne (tgt := 74) (pc' := 70) dX2_inRaces_67 (by first | assumption | omega | (constructor <;> omega) | (simp only [Int.toNat_natCast]; omega) | exact b2_in _) (by first | assumption | omega | (constructor <;> omega) | (simp only [Int.toNat_natCast]; omega) | exact b2_in _) (fun c67 => ?_) (fun c67 => ?_)
        · refine AW.iload (pc' := 76) dX2_inRaces_74 rfl ?_
          refine AW.i2l (pc' := 77) dX2_inRaces_76 (by first | assumption | omega | (constructor <;> omega) | (simp only [Int.toNat_natCast]; omega) | exact b2_in _) ?_
          refine AW.ladd (pc' := 78) dX2_inRaces_77 ?_
          refine AW.lstore1n (pc' := 79) dX2_inRaces_78 (by decide) rfl ?_
          refine AW.iload_n (pc' := 80) dX2_inRaces_79 rfl ?_
          refine AW.iload (pc' := 82) dX2_inRaces_80 rfl ?_
          refine AW.ldc (v := -2000000000) (pc' := 84) dX2_inRaces_82 kX2_73 ?_
          refine AW.icmp_ne (tgt := 91) (pc' := 87) dX2_inRaces_84 (by first | assumption | omega | (constructor <;> omega) | (simp only [Int.toNat_natCast]; omega) | exact b2_in _) (by first | assumption | omega | (constructor <;> omega) | (simp only [Int.toNat_natCast]; omega) | exact b2_in _) (fun c84 => ?_) (fun c84 => ?_)
          · refine AW.iconst (pc' := 92) dX2_inRaces_91 ?_
            refine AW.iadd (pc' := 93) dX2_inRaces_92 ?_
            refine AW.istore3n (pc' := 94) dX2_inRaces_93 (by decide) rfl ?_
            refine AW.aload_n (pc' := 95) dX2_inRaces_94 rfl ?_
            refine AW.getR (pc' := 98) dX2_inRaces_95 ly_35 fX2_12 rfl ?_
            refine AW.invV0v (pc' := 101) dX2_inRaces_98 mlX2_80 mX10_clear ly_39 rfl (c_X10_clear (dep := dep - 1)) ?_
            try simp only [Int.toNat_natCast, w1, w4, w5, w6, w7, w8, w10, w11, w12, w13, w14, w15, w16, w17, w18, w19, v1, v4, v5, v6, v7, v8, v10, v11, v12, v13, v14, v15, v16, v17, v18, v19, Int.toNat_natCast]
            refine AW.iinc4 (pc' := 104) dX2_inRaces_101 (by decide) rfl ?_
            refine AW.goto (tgt := 14) dX2_inRaces_104 ?_
            by_cases y : tgain (seenT (h 17) (h 8) (lvX h) (h 19 k).toNat s.1) = -2000000000
            · first
              | omega
              | (have z : irX h k s = ((0, 0, 0, 0), s.2) := by
                   simp only [irX, irS]
                   rw [if_pos c50, if_pos y]
                 rw [z] at ii
                 refine AW.weak (ih (k + 1) ((0, 0, 0, 0), s.2) _ (by omega) ((((e3.st rfl).st rfl).st rfl).st rfl) (by unfold tal; simp only [hset_app, Nat.reduceEqDiff, and_false, true_and, and_true, false_and, reduceIte]) ii.1 ii.2 (by have y := kk; unfold lp at y; rw [z] at y; exact y)) (by (repeat' first | exact LSub.e | refine LSub.n ?_ | refine LSub.c ?_ ?_) <;> first | rfl | exact congrArg Sum.inl (by first | rfl | omega | (push_cast; omega)) | exact congrArg (fun z : Int => (vL z : AV)) (by first | rfl | omega | (push_cast; omega))))
            · first
              | omega
              | (have z : irX h k s = ((0, 0, 0, 0), (s.2.1 + 1, s.2.2 + tgain (seenT (h 17) (h 8) (lvX h) (h 19 k).toNat s.1))) := by
                   simp only [irX, irS]
                   rw [if_pos c50, if_neg y]
                 rw [z] at ii
                 refine AW.weak (ih (k + 1) ((0, 0, 0, 0), (s.2.1 + 1, s.2.2 + tgain (seenT (h 17) (h 8) (lvX h) (h 19 k).toNat s.1))) _ (by omega) ((((e3.st rfl).st rfl).st rfl).st rfl) (by unfold tal; simp only [hset_app, Nat.reduceEqDiff, and_false, true_and, and_true, false_and, reduceIte]) ii.1 ii.2 (by have y := kk; unfold lp at y; rw [z] at y; exact y)) (by (repeat' first | exact LSub.e | refine LSub.n ?_ | refine LSub.c ?_ ?_) <;> first | rfl | exact congrArg Sum.inl (by first | rfl | omega | (push_cast; omega)) | exact congrArg (fun z : Int => (vL z : AV)) (by first | rfl | omega | (push_cast; omega))))
          · refine AW.iconst (pc' := 88) dX2_inRaces_87 ?_
            refine AW.goto (tgt := 92) dX2_inRaces_88 ?_
            refine AW.iadd (pc' := 93) dX2_inRaces_92 ?_
            refine AW.istore3n (pc' := 94) dX2_inRaces_93 (by decide) rfl ?_
            refine AW.aload_n (pc' := 95) dX2_inRaces_94 rfl ?_
            refine AW.getR (pc' := 98) dX2_inRaces_95 ly_35 fX2_12 rfl ?_
            refine AW.invV0v (pc' := 101) dX2_inRaces_98 mlX2_80 mX10_clear ly_39 rfl (c_X10_clear (dep := dep - 1)) ?_
            try simp only [Int.toNat_natCast, w1, w4, w5, w6, w7, w8, w10, w11, w12, w13, w14, w15, w16, w17, w18, w19, v1, v4, v5, v6, v7, v8, v10, v11, v12, v13, v14, v15, v16, v17, v18, v19, Int.toNat_natCast]
            refine AW.iinc4 (pc' := 104) dX2_inRaces_101 (by decide) rfl ?_
            refine AW.goto (tgt := 14) dX2_inRaces_104 ?_
            by_cases y : tgain (seenT (h 17) (h 8) (lvX h) (h 19 k).toNat s.1) = -2000000000
            · first
              | omega
              | (have z : irX h k s = ((0, 0, 0, 0), s.2) := by
                   simp only [irX, irS]
                   rw [if_pos c50, if_pos y]
                 rw [z] at ii
                 refine AW.weak (ih (k + 1) ((0, 0, 0, 0), s.2) _ (by omega) ((((e3.st rfl).st rfl).st rfl).st rfl) (by unfold tal; simp only [hset_app, Nat.reduceEqDiff, and_false, true_and, and_true, false_and, reduceIte]) ii.1 ii.2 (by have y := kk; unfold lp at y; rw [z] at y; exact y)) (by (repeat' first | exact LSub.e | refine LSub.n ?_ | refine LSub.c ?_ ?_) <;> first | rfl | exact congrArg Sum.inl (by first | rfl | omega | (push_cast; omega)) | exact congrArg (fun z : Int => (vL z : AV)) (by first | rfl | omega | (push_cast; omega))))
            · first
              | omega
              | (have z : irX h k s = ((0, 0, 0, 0), (s.2.1 + 1, s.2.2 + tgain (seenT (h 17) (h 8) (lvX h) (h 19 k).toNat s.1))) := by
                   simp only [irX, irS]
                   rw [if_pos c50, if_neg y]
                 rw [z] at ii
                 refine AW.weak (ih (k + 1) ((0, 0, 0, 0), (s.2.1 + 1, s.2.2 + tgain (seenT (h 17) (h 8) (lvX h) (h 19 k).toNat s.1))) _ (by omega) ((((e3.st rfl).st rfl).st rfl).st rfl) (by unfold tal; simp only [hset_app, Nat.reduceEqDiff, and_false, true_and, and_true, false_and, reduceIte]) ii.1 ii.2 (by have y := kk; unfold lp at y; rw [z] at y; exact y)) (by (repeat' first | exact LSub.e | refine LSub.n ?_ | refine LSub.c ?_ ?_) <;> first | rfl | exact congrArg Sum.inl (by first | rfl | omega | (push_cast; omega)) | exact congrArg (fun z : Int => (vL z : AV)) (by first | rfl | omega | (push_cast; omega))))
        · refine AW.lconst_0 (pc' := 71) dX2_inRaces_70 ?_
          refine AW.goto (tgt := 77) dX2_inRaces_71 ?_
          refine AW.ladd (pc' := 78) dX2_inRaces_77 ?_
          refine AW.lstore1n (pc' := 79) dX2_inRaces_78 (by decide) rfl ?_
          refine AW.iload_n (pc' := 80) dX2_inRaces_79 rfl ?_
          refine AW.iload (pc' := 82) dX2_inRaces_80 rfl ?_
          refine AW.ldc (v := -2000000000) (pc' := 84) dX2_inRaces_82 kX2_73 ?_
          refine AW.icmp_ne (tgt := 91) (pc' := 87) dX2_inRaces_84 (by first | assumption | omega | (constructor <;> omega) | (simp only [Int.toNat_natCast]; omega) | exact b2_in _) (by first | assumption | omega | (constructor <;> omega) | (simp only [Int.toNat_natCast]; omega) | exact b2_in _) (fun c84 => ?_) (fun c84 => ?_)
          · refine AW.iconst (pc' := 92) dX2_inRaces_91 ?_
            refine AW.iadd (pc' := 93) dX2_inRaces_92 ?_
            refine AW.istore3n (pc' := 94) dX2_inRaces_93 (by decide) rfl ?_
            refine AW.aload_n (pc' := 95) dX2_inRaces_94 rfl ?_
            refine AW.getR (pc' := 98) dX2_inRaces_95 ly_35 fX2_12 rfl ?_
            refine AW.invV0v (pc' := 101) dX2_inRaces_98 mlX2_80 mX10_clear ly_39 rfl (c_X10_clear (dep := dep - 1)) ?_
            try simp only [Int.toNat_natCast, w1, w4, w5, w6, w7, w8, w10, w11, w12, w13, w14, w15, w16, w17, w18, w19, v1, v4, v5, v6, v7, v8, v10, v11, v12, v13, v14, v15, v16, v17, v18, v19, Int.toNat_natCast]
            refine AW.iinc4 (pc' := 104) dX2_inRaces_101 (by decide) rfl ?_
            refine AW.goto (tgt := 14) dX2_inRaces_104 ?_
            by_cases y : tgain (seenT (h 17) (h 8) (lvX h) (h 19 k).toNat s.1) = -2000000000
            · first
              | omega
              | (have z : irX h k s = ((0, 0, 0, 0), s.2) := by
                   simp only [irX, irS]
                   rw [if_pos c50, if_pos y]
                 rw [z] at ii
                 refine AW.weak (ih (k + 1) ((0, 0, 0, 0), s.2) _ (by omega) ((((e3.st rfl).st rfl).st rfl).st rfl) (by unfold tal; simp only [hset_app, Nat.reduceEqDiff, and_false, true_and, and_true, false_and, reduceIte]) ii.1 ii.2 (by have y := kk; unfold lp at y; rw [z] at y; exact y)) (by (repeat' first | exact LSub.e | refine LSub.n ?_ | refine LSub.c ?_ ?_) <;> first | rfl | exact congrArg Sum.inl (by first | rfl | omega | (push_cast; omega)) | exact congrArg (fun z : Int => (vL z : AV)) (by first | rfl | omega | (push_cast; omega))))
            · first
              | omega
              | (have z : irX h k s = ((0, 0, 0, 0), (s.2.1 + 1, s.2.2 + tgain (seenT (h 17) (h 8) (lvX h) (h 19 k).toNat s.1))) := by
                   simp only [irX, irS]
                   rw [if_pos c50, if_neg y]
                 rw [z] at ii
                 refine AW.weak (ih (k + 1) ((0, 0, 0, 0), (s.2.1 + 1, s.2.2 + tgain (seenT (h 17) (h 8) (lvX h) (h 19 k).toNat s.1))) _ (by omega) ((((e3.st rfl).st rfl).st rfl).st rfl) (by unfold tal; simp only [hset_app, Nat.reduceEqDiff, and_false, true_and, and_true, false_and, reduceIte]) ii.1 ii.2 (by have y := kk; unfold lp at y; rw [z] at y; exact y)) (by (repeat' first | exact LSub.e | refine LSub.n ?_ | refine LSub.c ?_ ?_) <;> first | rfl | exact congrArg Sum.inl (by first | rfl | omega | (push_cast; omega)) | exact congrArg (fun z : Int => (vL z : AV)) (by first | rfl | omega | (push_cast; omega))))
          · refine AW.iconst (pc' := 88) dX2_inRaces_87 ?_
            refine AW.goto (tgt := 92) dX2_inRaces_88 ?_
            refine AW.iadd (pc' := 93) dX2_inRaces_92 ?_
            refine AW.istore3n (pc' := 94) dX2_inRaces_93 (by decide) rfl ?_
            refine AW.aload_n (pc' := 95) dX2_inRaces_94 rfl ?_
            refine AW.getR (pc' := 98) dX2_inRaces_95 ly_35 fX2_12 rfl ?_
            refine AW.invV0v (pc' := 101) dX2_inRaces_98 mlX2_80 mX10_clear ly_39 rfl (c_X10_clear (dep := dep - 1)) ?_
            try simp only [Int.toNat_natCast, w1, w4, w5, w6, w7, w8, w10, w11, w12, w13, w14, w15, w16, w17, w18, w19, v1, v4, v5, v6, v7, v8, v10, v11, v12, v13, v14, v15, v16, v17, v18, v19, Int.toNat_natCast]
            refine AW.iinc4 (pc' := 104) dX2_inRaces_101 (by decide) rfl ?_
            refine AW.goto (tgt := 14) dX2_inRaces_104 ?_
            by_cases y : tgain (seenT (h 17) (h 8) (lvX h) (h 19 k).toNat s.1) = -2000000000
            · first
              | omega
              | (have z : irX h k s = ((0, 0, 0, 0), s.2) := by
                   simp only [irX, irS]
                   rw [if_pos c50, if_pos y]
                 rw [z] at ii
                 refine AW.weak (ih (k + 1) ((0, 0, 0, 0), s.2) _ (by omega) ((((e3.st rfl).st rfl).st rfl).st rfl) (by unfold tal; simp only [hset_app, Nat.reduceEqDiff, and_false, true_and, and_true, false_and, reduceIte]) ii.1 ii.2 (by have y := kk; unfold lp at y; rw [z] at y; exact y)) (by (repeat' first | exact LSub.e | refine LSub.n ?_ | refine LSub.c ?_ ?_) <;> first | rfl | exact congrArg Sum.inl (by first | rfl | omega | (push_cast; omega)) | exact congrArg (fun z : Int => (vL z : AV)) (by first | rfl | omega | (push_cast; omega))))
            · first
              | omega
              | (have z : irX h k s = ((0, 0, 0, 0), (s.2.1 + 1, s.2.2 + tgain (seenT (h 17) (h 8) (lvX h) (h 19 k).toNat s.1))) := by
                   simp only [irX, irS]
                   rw [if_pos c50, if_neg y]
                 rw [z] at ii
                 refine AW.weak (ih (k + 1) ((0, 0, 0, 0), (s.2.1 + 1, s.2.2 + tgain (seenT (h 17) (h 8) (lvX h) (h 19 k).toNat s.1))) _ (by omega) ((((e3.st rfl).st rfl).st rfl).st rfl) (by unfold tal; simp only [hset_app, Nat.reduceEqDiff, and_false, true_and, and_true, false_and, reduceIte]) ii.1 ii.2 (by have y := kk; unfold lp at y; rw [z] at y; exact y)) (by (repeat' first | exact LSub.e | refine LSub.n ?_ | refine LSub.c ?_ ?_) <;> first | rfl | exact congrArg Sum.inl (by first | rfl | omega | (push_cast; omega)) | exact congrArg (fun z : Int => (vL z : AV)) (by first | rfl | omega | (push_cast; omega))))
set_option maxRecDepth 100000 in
set_option maxHeartbeats 4000000 in
theorem c_X2_inRaces {K : KT} {dep : Nat} {h : Hp}  (hd : 4 ≤ dep) (hI : IXa h) (hQ : PO (h 12 10) (h 19)) : AMp K yX2_inRaces cX2_inRaces 7 (some .int) dep [vR 35] h (some (vI (meanP (irF h)))) (fun x => EX [39] h x) := by
  refine AM.of (own := RX2) (ls := [some (vR 35), none, none, none, none, none, none]) rfl (by decide +kernel) (by exact Nat.le_of_ble_eq_true rfl) rfl (fun hO => ?_)
  have g6 := hI.2.2.2.1
  have g7 := hI.2.2.2.2.1
  have g8 := hI.2.1.2.1
  have ib := irF_in hI hQ
  have i1 := ib.1
  have i2 := ib.2.1
  have i3 := ib.2.2.1
  have i4 := ib.2.2.2
  refine AW.lconst_0 (pc' := 1) dX2_inRaces_0 ?_
  refine AW.lstore1n (pc' := 2) dX2_inRaces_1 (by decide) rfl ?_
  refine AW.iconst (pc' := 3) dX2_inRaces_2 ?_
  refine AW.istore3n (pc' := 4) dX2_inRaces_3 (by decide) rfl ?_
  refine AW.aload_n (pc' := 5) dX2_inRaces_4 rfl ?_
  refine AW.getR (pc' := 8) dX2_inRaces_5 ly_35 fX2_12 rfl ?_
  refine AW.invV0v (pc' := 11) dX2_inRaces_8 mlX2_80 mX10_clear ly_39 rfl (c_X10_clear (dep := dep - 1)) ?_
  refine AW.iconst (pc' := 12) dX2_inRaces_11 ?_
  refine AW.istore4 (pc' := 14) dX2_inRaces_12 (by decide) rfl ?_
  refine AW.weak (lp_X2_inRaces hI hQ hd (h 12 10).toNat 0 ((0, 0, 0, 0), (0, 0)) _ (by omega) ((((EX.rf.st rfl).st rfl).st rfl).st rfl) (by unfold tal; simp only [hset_app, Nat.reduceEqDiff, and_false, true_and, and_true, false_and, reduceIte]) (TI0 (by decide)) ⟨by decide, by decide, by decide, by decide⟩ (fun h2 e2 => ?_)) (by (repeat' first | exact LSub.e | refine LSub.n ?_ | refine LSub.c ?_ ?_) <;> first | rfl | exact congrArg Sum.inl (by first | rfl | omega | omega) | exact congrArg (fun z : Int => (vL z : AV)) (by first | rfl | omega | omega))
  rw [show (lp (irX h) (h 12 10).toNat 0 ((0, 0, 0, 0), (0, 0))).2 = irF h from rfl]
  refine AW.iload_n (pc' := 108) dX2_inRaces_107 rfl ?_
  refine AW.if_ne (tgt := 116) (pc' := 111) dX2_inRaces_108 (by first | assumption | omega | (constructor <;> omega) | (simp only [Int.toNat_natCast]; omega) | exact b2_in _) (fun c108 => ?_) (fun c108 => ?_)
  · refine AW.lload_n (pc' := 117) dX2_inRaces_116 rfl ?_
    refine AW.iload_n (pc' := 118) dX2_inRaces_117 rfl ?_
    refine AW.i2l (pc' := 119) dX2_inRaces_118 (by first | assumption | omega | (constructor <;> omega) | (simp only [Int.toNat_natCast]; omega) | exact b2_in _) ?_
    refine AW.invN2 (pc' := 122) dX2_inRaces_119 (by decide +kernel) mX11_cut (c_X11_cut (dep := dep - 1) (by first | assumption | omega | (constructor <;> omega) | (simp only [Int.toNat_natCast]; omega) | exact b2_in _) (by first | assumption | omega | (constructor <;> omega) | (simp only [Int.toNat_natCast]; omega) | exact b2_in _)) ?_
    refine AW.iret dX2_inRaces_122 ?_ ?_
    · refine congrArg (fun z : Int => (some (vI z) : Option AV)) ?_
      unfold meanP
      first | (rw [if_pos (by omega)]; done) | (rw [if_neg (by omega), if_neg (by omega)])
    · exact e2
  · refine AW.ldc (v := -2000000000) (pc' := 113) dX2_inRaces_111 kX2_73 ?_
    refine AW.goto (tgt := 122) dX2_inRaces_113 ?_
    refine AW.iret dX2_inRaces_122 ?_ ?_
    · refine congrArg (fun z : Int => (some (vI z) : Option AV)) ?_
      unfold meanP
      first | (rw [if_pos (by omega)]; done) | (rw [if_neg (by omega), if_neg (by omega)])
    · exact e2
abbrev fur (g : Prop) [Decidable g] (a b : Int) : Int := if a = -2000000000 then b else if b = -2000000000 then a else if g then (if a < b then b else a) else (if b < a then b else a)
abbrev sinX (h : Hp) : Int := lessV (meanP (prX h 0)) (meanP (prX h 2))
def bdF (g : Prop) [Decidable g] (s r b : Int) : Int := fur g (fur g s r) (lessV 0 b)
set_option maxRecDepth 100000 in
set_option maxHeartbeats 4000000 in
theorem c_X2_bound {K : KT} {dep : Nat} {h : Hp} {P : Prop} {dP : Decidable P} (hd : 5 ≤ dep) (hI : IXa h) (hQ : PO (h 12 10) (h 19)) (h0 : PI (h 37 0, h 36 0) 120) (h1 : PI (h 37 1, h 36 1) 120) (h2 : PI (h 37 2, h 36 2) 120) : AMp K yX2_bound cX2_bound 3 (some .int) dep [vR 35, vI (b2 P)] h (some (vI (bdF P (lessV (meanP (h 37 0, h 36 0)) (meanP (h 37 2, h 36 2))) (meanP (irF h)) (meanP (h 37 1, h 36 1))))) (fun x => EX [39] h x) := by
  refine AM.of (own := RX2) (ls := [some (vR 35), some (vI (b2 P)), none]) rfl (by decide +kernel) (by exact Nat.le_of_ble_eq_true rfl) rfl (fun hO => ?_)
  have g6 := hI.2.2.2.1
  have g7 := hI.2.2.2.2.1
  have g8 := hI.2.1.2.1
  have m0 := meanP_in h0 (by decide)
  have m1 := meanP_in h1 (by decide)
  have m2 := meanP_in h2 (by decide)
  have mr := meanP_in (irF_in hI hQ) (by decide)
  have ls : -30000000 ≤ lessV (meanP (h 37 0, h 36 0)) (meanP (h 37 2, h 36 2)) ∧ lessV (meanP (h 37 0, h 36 0)) (meanP (h 37 2, h 36 2)) ≤ 30000000 ∨ lessV (meanP (h 37 0, h 36 0)) (meanP (h 37 2, h 36 2)) = -2000000000 := by unfold lessV; split <;> omega
  refine AW.ldc (v := -2000000000) (pc' := 2) dX2_bound_0 kX2_73 ?_
  refine AW.aload_n (pc' := 3) dX2_bound_2 rfl ?_
  refine AW.invV0 (pc' := 6) dX2_bound_3 mlX2_110 mX2_since ly_35 rfl (c_X2_since (dep := dep - 1) (by first | assumption | omega | (constructor <;> omega) | (simp only [Int.toNat_natCast]; omega) | exact b2_in _) (by first | assumption | omega | (constructor <;> omega) | (simp only [Int.toNat_natCast]; omega) | exact b2_in _) (by first | assumption | omega | (constructor <;> omega) | (simp only [Int.toNat_natCast]; omega) | exact b2_in _)) ?_
  try simp only [Int.toNat_natCast, Int.reduceToNat]
  refine AW.iload_n (pc' := 7) dX2_bound_6 rfl ?_
  refine AW.invS3 (pc' := 10) dX2_bound_7 mlX2_113 mX2_further (c_X2_further (dep := dep - 1) (by first | assumption | omega | (constructor <;> omega) | (simp only [Int.toNat_natCast]; omega) | exact b2_in _) (by first | assumption | omega | (constructor <;> omega) | (simp only [Int.toNat_natCast]; omega) | exact b2_in _) (by first | assumption | omega | (constructor <;> omega) | (simp only [Int.toNat_natCast]; omega) | exact b2_in _)) ?_
  try simp only [Int.toNat_natCast, Int.reduceToNat]
  first | rw [if_pos trivial] | rw [if_pos rfl]
  generalize hls : lessV (meanP (h 37 0, h 36 0)) (meanP (h 37 2, h 36 2)) = LS at ls ⊢
  refine AW.istore2n (pc' := 11) dX2_bound_10 (by decide) rfl ?_
  refine AW.iload_n (pc' := 12) dX2_bound_11 rfl ?_
  refine AW.aload_n (pc' := 13) dX2_bound_12 rfl ?_
  refine AW.invQ0 (pc' := 16) dX2_bound_13 mlX2_117 mX2_inRaces ly_35 rfl (c_X2_inRaces (dep := dep - 1) (by first | assumption | omega | (constructor <;> omega) | (simp only [Int.toNat_natCast]; omega) | exact b2_in _) (by first | assumption | omega | (constructor <;> omega) | (simp only [Int.toNat_natCast]; omega) | exact b2_in _) (by first | assumption | omega | (constructor <;> omega) | (simp only [Int.toNat_natCast]; omega) | exact b2_in _)) (fun h13 s13 => ?_)
  try simp only [Int.toNat_natCast, Int.reduceToNat]
  have q37 := s13 37 rfl
  have q36 := s13 36 rfl
  generalize hmr : meanP (irF h) = MR at mr ⊢
  refine AW.iload_n (pc' := 17) dX2_bound_16 rfl ?_
  refine AW.invS3 (pc' := 20) dX2_bound_17 mlX2_113 mX2_further (c_X2_further (dep := dep - 1) (by first | assumption | omega | (constructor <;> omega) | (simp only [Int.toNat_natCast]; omega) | exact b2_in _) (by first | assumption | omega | (constructor <;> omega) | (simp only [Int.toNat_natCast]; omega) | exact b2_in _) (by first | assumption | omega | (constructor <;> omega) | (simp only [Int.toNat_natCast]; omega) | exact b2_in _)) ?_
  try simp only [Int.toNat_natCast, Int.reduceToNat]
  generalize hf : (if LS = -2000000000 then MR else if MR = -2000000000 then LS else if P then (if LS < MR then MR else LS) else (if MR < LS then MR else LS)) = FF
  have ff : inI FF := by rw [← hf]; (repeat' split) <;> constructor <;> omega
  refine AW.istore2n (pc' := 21) dX2_bound_20 (by decide) rfl ?_
  refine AW.iload_n (pc' := 22) dX2_bound_21 rfl ?_
  refine AW.iconst (pc' := 23) dX2_bound_22 ?_
  refine AW.aload_n (pc' := 24) dX2_bound_23 rfl ?_
  refine AW.iconst (pc' := 25) dX2_bound_24 ?_
  refine AW.invV1 (pc' := 28) dX2_bound_25 mlX2_74 mX2_mean ly_35 rfl (c_X2_mean (dep := dep - 1) (by omega) (by omega) (by simp only [Int.reduceToNat, q37, q36]; exact h1)) ?_
  try simp only [Int.toNat_natCast, Int.reduceToNat]
  simp only [q37, q36]
  refine AW.invN2 (pc' := 31) dX2_bound_28 (by decide +kernel) mX11_less (c_X11_less (dep := dep - 1) (by first | assumption | omega | (constructor <;> omega) | (simp only [Int.toNat_natCast]; omega) | exact b2_in _) (by first | assumption | omega | (constructor <;> omega) | (simp only [Int.toNat_natCast]; omega) | exact b2_in _)) ?_
  try simp only [Int.toNat_natCast, Int.reduceToNat]
  generalize hm1 : meanP (h 37 1, h 36 1) = M1 at m1 ⊢
  have l1 : inI (if (0 : Int) = -2000000000 ∨ M1 = -2000000000 then -2000000000 else 0 - M1) := by split <;> constructor <;> omega
  refine AW.iload_n (pc' := 32) dX2_bound_31 rfl ?_
  refine AW.invS3 (pc' := 35) dX2_bound_32 mlX2_113 mX2_further (c_X2_further (dep := dep - 1) (by first | assumption | omega | (constructor <;> omega) | (simp only [Int.toNat_natCast]; omega) | exact b2_in _) (by first | assumption | omega | (constructor <;> omega) | (simp only [Int.toNat_natCast]; omega) | exact b2_in _) (by first | assumption | omega | (constructor <;> omega) | (simp only [Int.toNat_natCast]; omega) | exact b2_in _)) ?_
  try simp only [Int.toNat_natCast, Int.reduceToNat]
  refine AW.iret dX2_bound_35 ?_ ?_
  · refine congrArg (fun z : Int => (some (vI z) : Option AV)) ?_
    unfold bdF fur lessV
    rw [hf]
  · exact s13
