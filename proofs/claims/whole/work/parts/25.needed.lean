/-! needed: both -/
theorem spX_ex {ks : List Nat} {h h1 : Hp} (e : EX ks h h1) (hk : ks.all (fun k => decide (19 ≤ k)) = true) (mean : Int) : spX h1 mean = spX h mean := by
  have q : ∀ k : Nat, k < 19 → h1 k = h k := fun k z => e k (by
    cases z2 : ks.contains k with
    | false => rfl
    | true =>
      have := List.all_eq_true.mp hk k (List.contains_iff_mem.mp z2)
      simp at this
      omega)
  funext k s
  simp only [spX, lvX]
  rw [q 8 (by decide), q 11 (by decide), q 13 (by decide), q 14 (by decide), q 16 (by decide), q 17 (by decide), q 18 (by decide)]
/-- the spread of the pairs of sort 2: the class's -/
def spF (h : Hp) : Int := (lp (spX h (meanP (prX h 2))) (h 12 10 - 1).toNat 0 0).tdiv (prX h 2).1
theorem spF_in {h : Hp} (hI : IXa h) (hQ : PO (h 12 10) (h 18)) (h0 : (prX h 2).1 ≠ 0) : 0 ≤ spF h ∧ spF h ≤ 48000000000000000 := by
  have q0 := prX_in hI hQ 2
  have mm := meanP_in q0 (by decide)
  have mm2 : -12000000 ≤ meanP (prX h 2) ∧ meanP (prX h 2) ≤ 1000 := by
    rcases mm with z | z
    · exact absurd z.1 h0
    · exact z.2
  have ub := spX_in hI hQ mm2 (h 12 10 - 1).toNat 0 0 (by omega) (by omega) (by omega)
  have g7 := hI.2.2.2.2.1
  have p1 := q0.1
  have := tdiv_le (a := lp (spX h (meanP (prX h 2))) (h 12 10 - 1).toNat 0 0) (b := (prX h 2).1) (by omega) (by omega)
  unfold spF
  omega
theorem sq99 {g : Int} (h1 : -99 ≤ g) (h2 : g ≤ 99) (h0 : g ≠ 0) : 1 ≤ g * g ∧ g * g ≤ 9801 := by
  have m : g * g ≤ 9801 := by
    rcases Int.le_total 0 g with h | h
    · have := mul_in (A := 99) (B := 99) (by omega : -99 ≤ g) h2 h h2 (by decide)
      omega
    · have := mul_in (A := 99) (B := 99) (by omega : -99 ≤ -g) (by omega) (by omega : 0 ≤ -g) (by omega) (by decide)
      rw [Int.neg_mul_neg] at this
      omega
  refine ⟨?_, m⟩
  rcases Int.lt_or_lt_of_ne h0 with h | h
  · have := Int.mul_pos_of_neg_of_neg h h
    omega
  · have := Int.mul_pos h h
    omega
set_option maxRecDepth 100000 in
set_option maxHeartbeats 4000000 in
theorem c_X11_needed {K : KT} {dep : Nat} {h : Hp} {a : Int} (hd : 5 ≤ dep) (hI : IXa h) (hQ : PO (h 12 10) (h 18)) (q2 : inI a) : AMp K yX11_needed cX11_needed 6 (some .int) dep [vR 0, vI a] h (some (vI (if ¬ (0 ≤ a ∧ a < h 6 3) then -1 else if h 8 a.toNat = 0 ∨ (prX h 2).1 = 0 then -2 else if 999 < (4 * spF h).tdiv (h 8 a.toNat * h 8 a.toNat) + 1 then -2 else (4 * spF h).tdiv (h 8 a.toNat * h 8 a.toNat) + 1))) (fun x => EX [36, 37] h x) := by
  refine AM.of (own := RX11) (ls := [some (vR 0), some (vI a), none, none, none, none]) rfl (by decide +kernel) (by exact Nat.le_of_ble_eq_true rfl) rfl (fun hO => ?_)
  have g6 := hI.2.2.2.1
  have g7 := hI.2.2.2.2.1
  have g8 := hI.2.1.2.1
  refine AW.aload_n (pc' := 1) dX11_needed_0 rfl ?_
  refine AW.getR (pc' := 4) dX11_needed_1 ly_0 fX11_19 rfl ?_
  refine AW.iload_n (pc' := 5) dX11_needed_4 rfl ?_
  refine AW.invV1 (pc' := 8) dX11_needed_5 mlX11_134 mX9_has ly_6 rfl (c_X9_has (dep := dep - 1) (by first | assumption | omega | (constructor <;> omega) | (simp only [Int.toNat_natCast]; omega) | exact b2_in _)) ?_
  try simp only [Int.toNat_natCast, Int.reduceToNat]
  refine AW.ifb_ne (tgt := 13) (pc' := 11) dX11_needed_8 (fun c8 => ?_) (fun c8 => ?_)
  · have gb := hI.2.1.2.2 a.toNat (by omega)
    refine AW.aload_n (pc' := 14) dX11_needed_13 rfl ?_
    refine AW.getR (pc' := 17) dX11_needed_14 ly_0 fX11_19 rfl ?_
    refine AW.getR (pc' := 20) dX11_needed_17 ly_6 fX11_191 rfl ?_
    refine AW.iload_n (pc' := 21) dX11_needed_20 rfl ?_
    first | refine AW.ialdN (pc' := 22) dX11_needed_21 ly_8 (by first | assumption | omega | (constructor <;> omega) | (simp only [Int.toNat_natCast]; omega) | exact b2_in _) (by decide) (fun r21 => ?_) | refine AW.iald (pc' := 22) dX11_needed_21 ly_8 (by first | assumption | omega | (constructor <;> omega) | (simp only [Int.toNat_natCast]; omega) | exact b2_in _) (by first | assumption | omega | (constructor <;> omega) | (simp only [Int.toNat_natCast]; omega) | exact b2_in _) (by decide) (fun r21 => ?_)
    try simp only [Int.reduceToNat] at r21 ⊢
    refine AW.i2l (pc' := 23) dX11_needed_22 (by first | assumption | omega | (constructor <;> omega) | (simp only [Int.toNat_natCast]; omega) | exact b2_in _) ?_
    refine AW.lstore2n (pc' := 24) dX11_needed_23 (by decide) rfl ?_
    refine AW.aload_n (pc' := 25) dX11_needed_24 rfl ?_
    refine AW.getR (pc' := 28) dX11_needed_25 ly_0 fX11_60 rfl ?_
    refine AW.invQ0v (pc' := 31) dX11_needed_28 mlX11_230 mX2_pairUp ly_35 rfl (c_X2_pairUp (dep := dep - 1) (by first | assumption | omega | (constructor <;> omega) | (simp only [Int.toNat_natCast]; omega) | exact b2_in _) (by first | assumption | omega | (constructor <;> omega) | (simp only [Int.toNat_natCast]; omega) | exact b2_in _) (by first | assumption | omega | (constructor <;> omega) | (simp only [Int.toNat_natCast]; omega) | exact b2_in _)) (fun h28 s28 => ?_)
    try simp only [Int.toNat_natCast, Int.reduceToNat]
    obtain ⟨e2, t2⟩ := s28
    have pf : PFX h h28 := t2
    obtain ⟨p1, p2, p3⟩ := pf.pi hI hQ (a := 2) (by omega) (by omega)
    simp only [Int.reduceToNat] at p1 p2 p3
    have hI2 := hI.ex e2 rfl
    have hQ2 : PO (h28 12 10) (h28 18) := by rw [e2 12 rfl, e2 18 rfl]; exact hQ
    have g12 : h28 12 10 = h 12 10 := by rw [e2 12 rfl]
    refine AW.lload_n (pc' := 32) dX11_needed_31 rfl ?_
    refine AW.lconst_0 (pc' := 33) dX11_needed_32 ?_
    refine AW.lcmp (pc' := 34) dX11_needed_33 (by first | assumption | omega | (constructor <;> omega) | (simp only [Int.toNat_natCast]; omega) | exact b2_in _) (by first | assumption | omega | (constructor <;> omega) | (simp only [Int.toNat_natCast]; omega) | exact b2_in _) ?_
    refine AW.if_eq (tgt := 49) (pc' := 37) dX11_needed_34 (cmpI_in _ _) (fun c34 => ?_) (fun c34 => ?_)
    · simp only [cmpI_lt, cmpI_le, cmpI_gt, cmpI_ge, cmpI_eq, cmpI_ne] at c34
      refine AW.bipush (pc' := 51) dX11_needed_49 (by decide) ?_
      refine AW.iret dX11_needed_51 ?_ ?_
      · refine congrArg (fun z : Int => (some (vI z) : Option AV)) ?_
        (repeat' split) <;> first | rfl | omega
      · first | exact EX.rf | exact e2
    · simp only [cmpI_lt, cmpI_le, cmpI_gt, cmpI_ge, cmpI_eq, cmpI_ne] at c34
      refine AW.aload_n (pc' := 38) dX11_needed_37 rfl ?_
      refine AW.getR (pc' := 41) dX11_needed_38 ly_0 fX11_60 rfl ?_
      refine AW.getR (pc' := 44) dX11_needed_41 ly_35 fX11_236 rfl ?_
      refine AW.iconst (pc' := 45) dX11_needed_44 ?_
      try simp only [Int.reduceToNat]
      first | refine AW.ialdN (pc' := 46) dX11_needed_45 ly_37 (by first | assumption | omega | (constructor <;> omega) | (simp only [Int.toNat_natCast]; omega) | exact b2_in _) (by decide) (fun r45 => ?_) | refine AW.iald (pc' := 46) dX11_needed_45 ly_37 (by first | assumption | omega | (constructor <;> omega) | (simp only [Int.toNat_natCast]; omega) | exact b2_in _) (by first | assumption | omega | (constructor <;> omega) | (simp only [Int.toNat_natCast]; omega) | exact b2_in _) (by decide) (fun r45 => ?_)
      try simp only [Int.reduceToNat] at r45 ⊢
      refine AW.if_ne (tgt := 52) (pc' := 49) dX11_needed_46 (by first | assumption | omega | (constructor <;> omega) | (simp only [Int.toNat_natCast]; omega) | exact b2_in _) (fun c46 => ?_) (fun c46 => ?_)
      · refine AW.ldc2 (v := 4) (pc' := 55) dX11_needed_52 klX11_283 ?_
        refine AW.aload_n (pc' := 56) dX11_needed_55 rfl ?_
        refine AW.getR (pc' := 59) dX11_needed_56 ly_0 fX11_60 rfl ?_
        refine AW.invV0 (pc' := 62) dX11_needed_59 mlX11_285 mX2_spread ly_35 rfl (c_X2_spread (dep := dep - 1) (by omega) hI2 hQ2 p1 (by omega)) ?_
        try simp only [Int.toNat_natCast, Int.reduceToNat]
        have z : (lp (spX h28 (meanP (h28 37 2, h28 36 2))) (h28 12 10 - 1).toNat 0 0).tdiv (h28 37 2) = spF h := by
          unfold spF
          rw [p2, p3, g12, spX_ex e2 rfl]
        rw [z]
        have sb := spF_in hI hQ (by omega)
        have sq := sq99 gb.2.2.1 gb.2.2.2.1 (by omega)
        have td := tdiv_le (a := 4 * spF h) (b := h 8 a.toNat * h 8 a.toNat) (by omega) (by omega)
        refine AW.lmul (pc' := 63) dX11_needed_62 ?_
        refine AW.lload_n (pc' := 64) dX11_needed_63 rfl ?_
        refine AW.lload_n (pc' := 65) dX11_needed_64 rfl ?_
        refine AW.lmul (pc' := 66) dX11_needed_65 ?_
        refine AW.ldiv (pc' := 67) dX11_needed_66 (by first | assumption | omega | (constructor <;> omega) | (simp only [Int.toNat_natCast]; omega) | exact b2_in _) (by first | assumption | omega | (constructor <;> omega) | (simp only [Int.toNat_natCast]; omega) | exact b2_in _) (by first | assumption | omega | (constructor <;> omega) | (simp only [Int.toNat_natCast]; omega) | exact b2_in _) ?_
        refine AW.lconst_1 (pc' := 68) dX11_needed_67 ?_
        refine AW.ladd (pc' := 69) dX11_needed_68 ?_
        refine AW.lstore4 (pc' := 71) dX11_needed_69 (by decide) rfl ?_
        refine AW.lload (pc' := 73) dX11_needed_71 rfl ?_
        refine AW.ldc2 (v := 999) (pc' := 76) dX11_needed_73 klX11_289 ?_
        refine AW.lcmp (pc' := 77) dX11_needed_76 (by first | assumption | omega | (constructor <;> omega) | (simp only [Int.toNat_natCast]; omega) | exact b2_in _) (by first | assumption | omega | (constructor <;> omega) | (simp only [Int.toNat_natCast]; omega) | exact b2_in _) ?_
        refine AW.if_le (tgt := 85) (pc' := 80) dX11_needed_77 (cmpI_in _ _) (fun c77 => ?_) (fun c77 => ?_)
        · simp only [cmpI_lt, cmpI_le, cmpI_gt, cmpI_ge, cmpI_eq, cmpI_ne] at c77
          refine AW.lload (pc' := 87) dX11_needed_85 rfl ?_
          refine AW.l2i (pc' := 88) dX11_needed_87 ?_
          refine AW.iret dX11_needed_88 ?_ ?_
          · refine congrArg (fun z : Int => (some (vI z) : Option AV)) ?_
            (repeat' split) <;> first | rfl | omega
          · first | exact EX.rf | exact e2
        · simp only [cmpI_lt, cmpI_le, cmpI_gt, cmpI_ge, cmpI_eq, cmpI_ne] at c77
          refine AW.bipush (pc' := 82) dX11_needed_80 (by decide) ?_
          refine AW.goto (tgt := 88) dX11_needed_82 ?_
          refine AW.iret dX11_needed_88 ?_ ?_
          · refine congrArg (fun z : Int => (some (vI z) : Option AV)) ?_
            (repeat' split) <;> first | rfl | omega
          · first | exact EX.rf | exact e2
      · refine AW.bipush (pc' := 51) dX11_needed_49 (by decide) ?_
        refine AW.iret dX11_needed_51 ?_ ?_
        · refine congrArg (fun z : Int => (some (vI z) : Option AV)) ?_
          (repeat' split) <;> first | rfl | omega
        · first | exact EX.rf | exact e2
  · refine AW.iconst (pc' := 12) dX11_needed_11 ?_
    refine AW.iret dX11_needed_12 ?_ ?_
    · refine congrArg (fun z : Int => (some (vI z) : Option AV)) ?_
      (repeat' split) <;> first | rfl | omega
    · first | exact EX.rf | exact e2
/-- the reference's: the sum of the squares, then the least number -/
def nsS (nx : Int → Int) (sh gv lv : Nat → Int) (mean : Int) (k : Nat) (s : Int) : Int := if sortM sh gv k (nx k) = 2 then s + (gainF lv k (nx k).toNat - mean) * (gainF lv k (nx k).toNat - mean) else s
abbrev nsM (h : Hp) (mean : Int) : Nat → Int → Int := nsS (nxM h) (h 70) (h 63) (lvM h) mean
def ndF (q sp : Int) : Nat → Nat → Int
  | 0, _ => -2
  | n + 1, k => if sp < q * k then (k : Int) else ndF q sp n (k + 1)
theorem ndF_in (q sp : Int) : ∀ n k : Nat, ndF q sp n k = -2 ∨ (k : Int) ≤ ndF q sp n k ∧ ndF q sp n k < k + n
  | 0, k => Or.inl rfl
  | n + 1, k => by
    unfold ndF
    split
    · omega
    · have := ndF_in q sp n (k + 1); omega
theorem nsM_in {h : Hp} (hI : IMa h) {mean : Int} (hm : -12000000 ≤ mean ∧ mean ≤ 1000) {k : Nat} {s : Int} (hk : (k : Int) < h 57 16) (h0 : 0 ≤ s) (h1 : s ≤ 400000000000000 * (k : Int)) : 0 ≤ nsM h mean k s ∧ nsM h mean k s ≤ 400000000000000 * ((k + 1 : Nat) : Int) := by
  have n1 := nextF_in (h 57 16) (h 66) (h 68) k (by omega)
  have gg := gainF_in hI.2.2.2 hI.2.2.1 hk (b := (nxM h k).toNat) (by show ((nextF (h 57 16) (h 66) (h 68) k).toNat : Int) < _; omega)
  have sq := sq_in (d := gainF (lvM h) k (nxM h k).toNat - mean) (by simp only [lvM]; omega) (by simp only [lvM]; omega)
  simp only [nsM, nsS]
  split
  · push_cast; omega
  · push_cast; omega
theorem nsL_in {h : Hp} (hI : IMa h) {mean : Int} (hm : -12000000 ≤ mean ∧ mean ≤ 1000) : ∀ (n k : Nat) (s : Int), (k : Int) + n = h 57 16 → 0 ≤ s → s ≤ 400000000000000 * (k : Int) → 0 ≤ lp (nsM h mean) n k s ∧ lp (nsM h mean) n k s ≤ 48000000000000000
  | 0, k, s, hk, h0, h1 => by
    have := hI.2.2.2.2.1
    unfold lp
    omega
  | n + 1, k, s, hk, h0, h1 => by
    have z := nsM_in hI hm (by omega) h0 h1
    unfold lp
    exact nsL_in hI hm n (k + 1) _ (by omega) z.1 z.2
/-- the reference's spread -/
def snF (h : Hp) : Int := (lp (nsM h (meanP (prM h 2))) (h 57 16).toNat 0 0).tdiv (prM h 2).1
theorem nsM_ep {h h1 : Hp} (e : EP mscr h h1) (mean : Int) : nsM h1 mean = nsM h mean := by
  funext k s
  simp only [nsM, nsS, nxM, lvM]
  rw [e.row 66 (fun _ => rfl), e.row 68 (fun _ => rfl), e.row 69 (fun _ => rfl), e.row 70 (fun _ => rfl), e.row 67 (fun _ => rfl), e.row 65 (fun _ => rfl), e.row 63 (fun _ => rfl), e 57 16 rfl]
set_option maxRecDepth 100000 in
set_option maxHeartbeats 4000000 in
theorem lp_X12_needed {K : KT} {X : XT} {dep : Nat} {h : Hp} {a mean p : Int} (hI : IMa h) (hm : -12000000 ≤ mean ∧ mean ≤ 1000) (hd : 2 ≤ dep) : ∀ (n k : Nat) (acc : Int), (k : Int) + n = h 57 16 → 0 ≤ acc → acc ≤ 400000000000000 * (k : Int) → AW K X RX12 cX12_needed 11 (some .int) dep 106 [some (vR 57), some (vI (a)), some (vI (mean)), some (vI (p)), some (vL ((lp (nsM h mean) n k acc))), none, none, none, none, none, none] [] h → AW K X RX12 cX12_needed 11 (some .int) dep 45 [some (vR 57), some (vI (a)), some (vI (mean)), some (vI (p)), some (vL (acc)), none, some (vI ((k : Int))), none, none, none, none] [] h := by
  have g6 := hI.2.2.2.1
  have g7 := hI.2.2.2.2.1
  have g8 := hI.2.1.2.1
  intro n
  induction n with
  | zero =>
    intro k acc hk i0 i1 kk
    refine AW.iload (pc' := 47) dX12_needed_45 rfl ?_
    refine AW.aload_n (pc' := 48) dX12_needed_47 rfl ?_
    refine AW.getI (pc' := 51) dX12_needed_48 ly_57 fX12_128 rfl (fun r48 => ?_)
    refine AW.icmp_ge (tgt := 106) (pc' := 54) dX12_needed_51 (by first | assumption | omega | (constructor <;> omega) | (simp only [Int.toNat_natCast]; omega) | exact b2_in _) (by first | assumption | omega | (constructor <;> omega) | (simp only [Int.toNat_natCast]; omega) | exact b2_in _) (fun c51 => ?_) (fun c51 => ?_)
    · exact AW.weak kk (by (repeat' first | exact LSub.e | refine LSub.n ?_ | refine LSub.c ?_ ?_) <;> first | rfl | exact congrArg Sum.inl (by first | rfl | omega | omega) | exact congrArg (fun z : Int => (vL z : AV)) (by first | rfl | omega | omega))
    · omega
  | succ n ih =>
    intro k acc hk i0 i1 kk
    have hkr : ((k : Nat) : Int) < h 57 16 := by omega
    have n1 := nextF_in (h 57 16) (h 66) (h 68) k (by omega)
    have s1 := sortM_in (h 70) (h 63) k (nxM h k)
    simp only [nxM] at s1
    refine AW.iload (pc' := 47) dX12_needed_45 rfl ?_
    refine AW.aload_n (pc' := 48) dX12_needed_47 rfl ?_
    refine AW.getI (pc' := 51) dX12_needed_48 ly_57 fX12_128 rfl (fun r48 => ?_)
    refine AW.icmp_ge (tgt := 106) (pc' := 54) dX12_needed_51 (by first | assumption | omega | (constructor <;> omega) | (simp only [Int.toNat_natCast]; omega) | exact b2_in _) (by first | assumption | omega | (constructor <;> omega) | (simp only [Int.toNat_natCast]; omega) | exact b2_in _) (fun c51 => ?_) (fun c51 => ?_)
    · omega
    · refine AW.aload_n (pc' := 55) dX12_needed_54 rfl ?_
      refine AW.iload (pc' := 57) dX12_needed_55 rfl ?_
      refine AW.invV1 (pc' := 60) dX12_needed_57 mlX12_265 mX12_nextOf ly_57 rfl (c_X12_nextOf (dep := dep - 1) (by first | assumption | omega | (constructor <;> omega) | (simp only [Int.toNat_natCast]; omega) | exact b2_in _) (by first | assumption | omega | (constructor <;> omega) | (simp only [Int.toNat_natCast]; omega) | exact b2_in _) (by first | assumption | omega | (constructor <;> omega) | (simp only [Int.toNat_natCast]; omega) | exact b2_in _)) ?_
      try simp only [Int.toNat_natCast]
      refine AW.istore7 (pc' := 62) dX12_needed_60 (by decide) rfl ?_
      refine AW.aload_n (pc' := 63) dX12_needed_62 rfl ?_
      refine AW.iload (pc' := 65) dX12_needed_63 rfl ?_
      refine AW.iload (pc' := 67) dX12_needed_65 rfl ?_
      refine AW.invV2 (pc' := 70) dX12_needed_67 mlX12_268 mX12_sortOf ly_57 rfl (c_X12_sortOf (dep := dep - 1) (by first | assumption | omega | (constructor <;> omega) | (simp only [Int.toNat_natCast]; omega) | exact b2_in _) (by first | assumption | omega | (constructor <;> omega) | (simp only [Int.toNat_natCast]; omega) | exact b2_in _) (by first | assumption | omega | (constructor <;> omega) | (simp only [Int.toNat_natCast]; omega) | exact b2_in _) (by first | assumption | omega | (constructor <;> omega) | (simp only [Int.toNat_natCast]; omega) | exact b2_in _)) ?_
      try simp only [Int.toNat_natCast]
      refine AW.iconst (pc' := 71) dX12_needed_70 ?_
      refine AW.icmp_eq (tgt := 77) (pc' := 74) dX12_needed_71 (by first | assumption | omega | (constructor <;> omega) | (simp only [Int.toNat_natCast]; omega) | exact b2_in _) (by first | assumption | omega | (constructor <;> omega) | (simp only [Int.toNat_natCast]; omega) | exact b2_in _) (fun c71 => ?_) (fun c71 => ?_)
      · have n2 : 0 ≤ nxM h k ∧ nxM h k < h 57 16 := by
          simp only [nxM]
          rcases n1 with z | z
          · exfalso
            have : sortM (h 70) (h 63) k (nxM h k) = -1 := by unfold sortM; rw [if_pos (by left; show nextF (h 57 16) (h 66) (h 68) k < 0; omega)]
            simp only [nxM] at this
            omega
          · exact z
        have gg := gainF_in hI.2.2.2 hI.2.2.1 hkr (b := (nxM h k).toNat) (by simp only [nxM] at n2 ⊢; omega)
        simp only [nxM, lvM] at n2 gg
        refine AW.aload_n (pc' := 78) dX12_needed_77 rfl ?_
        refine AW.iload (pc' := 80) dX12_needed_78 rfl ?_
        refine AW.iload (pc' := 82) dX12_needed_80 rfl ?_
        refine AW.invV2 (pc' := 85) dX12_needed_82 mlX12_271 mX12_gained ly_57 rfl (c_X12_gained (dep := dep - 1) (by first | assumption | omega | (constructor <;> omega) | (simp only [Int.toNat_natCast]; omega) | exact b2_in _) (by first | assumption | omega | (constructor <;> omega) | (simp only [Int.toNat_natCast]; omega) | exact b2_in _) (by first | assumption | omega | (constructor <;> omega) | (simp only [Int.toNat_natCast]; omega) | exact b2_in _) (by first | assumption | omega | (constructor <;> omega) | (simp only [Int.toNat_natCast]; omega) | exact b2_in _)) ?_
        try simp only [Int.toNat_natCast]
        refine AW.iload_n (pc' := 86) dX12_needed_85 rfl ?_
        refine AW.isub (pc' := 87) dX12_needed_86 ?_
        refine AW.i2l (pc' := 88) dX12_needed_87 (by first | assumption | omega | (constructor <;> omega) | (simp only [Int.toNat_natCast]; omega) | exact b2_in _) ?_
        refine AW.lstore8 (pc' := 90) dX12_needed_88 (by decide) rfl ?_
        refine AW.lload (pc' := 92) dX12_needed_90 rfl ?_
        refine AW.lload (pc' := 94) dX12_needed_92 rfl ?_
        refine AW.lload (pc' := 96) dX12_needed_94 rfl ?_
        refine AW.lmul (pc' := 97) dX12_needed_96 ?_
        refine AW.ladd (pc' := 98) dX12_needed_97 ?_
        refine AW.lstore4 (pc' := 100) dX12_needed_98 (by decide) rfl ?_
        refine AW.iinc6 (pc' := 103) dX12_needed_100 (by decide) rfl ?_
        refine AW.goto (tgt := 45) dX12_needed_103 ?_
        exact AW.weak (ih (k + 1) ((nsM h mean) k acc) (by omega) (by first | omega | (exact (nsM_in hI hm hkr i0 i1).1) | (exact (nsM_in hI hm hkr i0 i1).2)) (by first | omega | (exact (nsM_in hI hm hkr i0 i1).1) | (exact (nsM_in hI hm hkr i0 i1).2)) kk) (by (repeat' first | exact LSub.e | refine LSub.n ?_ | refine LSub.c ?_ ?_) <;> first | rfl | exact congrArg Sum.inl (by first | rfl | omega | (simp only [nsM, nsS, nxM, lvM]; first | (rw [if_pos (by assumption)]; done) | (rw [if_neg (by assumption)]; done))) | exact congrArg (fun z : Int => (vL z : AV)) (by first | rfl | omega | (simp only [nsM, nsS, nxM, lvM]; first | (rw [if_pos (by assumption)]; done) | (rw [if_neg (by assumption)]; done))))
      · refine AW.goto (tgt := 100) dX12_needed_74 ?_
        refine AW.iinc6 (pc' := 103) dX12_needed_100 (by decide) rfl ?_
        refine AW.goto (tgt := 45) dX12_needed_103 ?_
        exact AW.weak (ih (k + 1) ((nsM h mean) k acc) (by omega) (by first | omega | (exact (nsM_in hI hm hkr i0 i1).1) | (exact (nsM_in hI hm hkr i0 i1).2)) (by first | omega | (exact (nsM_in hI hm hkr i0 i1).1) | (exact (nsM_in hI hm hkr i0 i1).2)) kk) (by (repeat' first | exact LSub.e | refine LSub.n ?_ | refine LSub.c ?_ ?_) <;> first | rfl | exact congrArg Sum.inl (by first | rfl | omega | (simp only [nsM, nsS, nxM, lvM]; first | (rw [if_pos (by assumption)]; done) | (rw [if_neg (by assumption)]; done))) | exact congrArg (fun z : Int => (vL z : AV)) (by first | rfl | omega | (simp only [nsM, nsS, nxM, lvM]; first | (rw [if_pos (by assumption)]; done) | (rw [if_neg (by assumption)]; done))))
set_option maxRecDepth 100000 in
set_option maxHeartbeats 4000000 in
theorem lp_X12_needed2 {K : KT}  {dep : Nat} {h : Hp} {a mean p s q sp : Int} (hq : 1 ≤ q ∧ q ≤ 9801) (hs : 0 ≤ sp ∧ sp ≤ 1000000000000000000)  : ∀ (n k : Nat), k + n = 1000 → 1 ≤ k → AW K (XM K (some (vI (ndF q sp n k))) h) RX12 cX12_needed 11 (some .int) dep 136 [some (vR 57), some (vI (a)), some (vI (mean)), some (vI (p)), some (vL (s)), none, some (vL (sp)), none, some (vL (q)), none, some (vI ((k : Int)))] [] h := by
  intro n
  induction n with
  | zero =>
    intro k hk h1
    refine AW.iload (pc' := 138) dX12_needed_136 rfl ?_
    refine AW.sipush (pc' := 141) dX12_needed_138 (by decide) ?_
    refine AW.icmp_ge (tgt := 165) (pc' := 144) dX12_needed_141 (by first | assumption | omega | (constructor <;> omega) | (simp only [Int.toNat_natCast]; omega) | exact b2_in _) (by first | assumption | omega | (constructor <;> omega) | (simp only [Int.toNat_natCast]; omega) | exact b2_in _) (fun c141 => ?_) (fun c141 => ?_)
    · refine AW.bipush (pc' := 167) dX12_needed_165 (by decide) ?_
      refine AW.iret dX12_needed_167 ?_ ?_
      all_goals first | rfl | exact congrArg (fun z : Int => (some (vI z) : Option AV)) (b2_t (by omega)) | exact congrArg (fun z : Int => (some (vI z) : Option AV)) (b2_f (by omega)) | ((repeat' split) <;> first | rfl | omega) | (refine congrArg (fun z : Int => (some (vI z) : Option AV)) ?_; (repeat' split) <;> first | rfl | omega)
    · omega
  | succ n ih =>
    intro k hk h1
    have mm := mul_in (a := q) (b := (k : Int)) (A := 9801) (B := 1000) (by omega) (by omega) (by omega) (by omega) (by omega)
    refine AW.iload (pc' := 138) dX12_needed_136 rfl ?_
    refine AW.sipush (pc' := 141) dX12_needed_138 (by decide) ?_
    refine AW.icmp_ge (tgt := 165) (pc' := 144) dX12_needed_141 (by first | assumption | omega | (constructor <;> omega) | (simp only [Int.toNat_natCast]; omega) | exact b2_in _) (by first | assumption | omega | (constructor <;> omega) | (simp only [Int.toNat_natCast]; omega) | exact b2_in _) (fun c141 => ?_) (fun c141 => ?_)
    · omega
    · refine AW.lload (pc' := 146) dX12_needed_144 rfl ?_
      refine AW.iload (pc' := 148) dX12_needed_146 rfl ?_
      refine AW.i2l (pc' := 149) dX12_needed_148 (by first | assumption | omega | (constructor <;> omega) | (simp only [Int.toNat_natCast]; omega) | exact b2_in _) ?_
      refine AW.lmul (pc' := 150) dX12_needed_149 ?_
      refine AW.lload (pc' := 152) dX12_needed_150 rfl ?_
      refine AW.lcmp (pc' := 153) dX12_needed_152 (by first | assumption | omega | (constructor <;> omega) | (simp only [Int.toNat_natCast]; omega) | exact b2_in _) (by first | assumption | omega | (constructor <;> omega) | (simp only [Int.toNat_natCast]; omega) | exact b2_in _) ?_
      refine AW.if_le (tgt := 159) (pc' := 156) dX12_needed_153 (cmpI_in _ _) (fun c153 => ?_) (fun c153 => ?_)
      · simp only [cmpI_lt, cmpI_le, cmpI_gt, cmpI_ge, cmpI_eq, cmpI_ne] at c153
        refine AW.iinc10 (pc' := 162) dX12_needed_159 (by decide) rfl ?_
        refine AW.goto (tgt := 136) dX12_needed_162 ?_
        have z : ndF q sp (n + 1) k = ndF q sp n (k + 1) := by
          conv => lhs; unfold ndF
          rw [if_neg (by omega)]
        rw [z]
        exact AW.weak (ih (k + 1) (by omega) (by omega)) (by (repeat' first | exact LSub.e | refine LSub.n ?_ | refine LSub.c ?_ ?_) <;> first | rfl | exact congrArg Sum.inl (by first | rfl | omega | (push_cast; omega)) | exact congrArg (fun z : Int => (vL z : AV)) (by first | rfl | omega | (push_cast; omega)))
      · simp only [cmpI_lt, cmpI_le, cmpI_gt, cmpI_ge, cmpI_eq, cmpI_ne] at c153
        refine AW.iload (pc' := 158) dX12_needed_156 rfl ?_
        refine AW.iret dX12_needed_158 ?_ ?_
        · refine congrArg (fun z : Int => (some (vI z) : Option AV)) ?_
          unfold ndF
          rw [if_pos (by omega)]
        · rfl
set_option maxRecDepth 100000 in
set_option maxHeartbeats 4000000 in
theorem c_X12_needed {K : KT} {dep : Nat} {h : Hp} {a : Int} (hd : 4 ≤ dep) (hI : IMa h) (q1 : inI a) : AMp K yX12_needed cX12_needed 11 (some .int) dep [vR 57, vI a] h (some (vI (if ¬ (0 ≤ a ∧ a < h 57 14) then -1 else if (prM h 2).1 = 0 ∨ h 63 a.toNat = 0 then -2 else ndF (h 63 a.toNat * h 63 a.toNat) (4 * snF h) 999 1))) (fun x => EP mscr h x) := by
  refine AM.of (own := RX12) (ls := [some (vR 57), some (vI a), none, none, none, none, none, none, none, none, none]) rfl (by decide +kernel) (by exact Nat.le_of_ble_eq_true rfl) rfl (fun hO => ?_)
  have g6 := hI.2.2.2.1
  have g7 := hI.2.2.2.2.1
  have g8 := hI.2.1.2.1
  refine AW.aload_n (pc' := 1) dX12_needed_0 rfl ?_
  refine AW.iload_n (pc' := 2) dX12_needed_1 rfl ?_
  refine AW.invV1 (pc' := 5) dX12_needed_2 mlX12_138 mX12_isShoe ly_57 rfl (c_X12_isShoe (dep := dep - 1) (by first | assumption | omega | (constructor <;> omega) | (simp only [Int.toNat_natCast]; omega) | exact b2_in _)) ?_
  try simp only [Int.toNat_natCast, w63, w14, w16, t2]
  refine AW.ifb_ne (tgt := 10) (pc' := 8) dX12_needed_5 (fun c5 => ?_) (fun c5 => ?_)
  · have gb := hI.2.1.2.2 a.toNat (by omega)
    refine AW.aload_n (pc' := 11) dX12_needed_10 rfl ?_
    refine AW.iconst (pc' := 12) dX12_needed_11 ?_
    refine AW.invQ1 (pc' := 15) dX12_needed_12 mlX12_277 mX12_meanOf ly_57 rfl (c_X12_meanOf (dep := dep - 1) (by first | assumption | omega | (constructor <;> omega) | (simp only [Int.toNat_natCast]; omega) | exact b2_in _) (by first | assumption | omega | (constructor <;> omega) | (simp only [Int.toNat_natCast]; omega) | exact b2_in _) (by first | assumption | omega | (constructor <;> omega) | (simp only [Int.toNat_natCast]; omega) | exact b2_in _)) (fun h12 s12 => ?_)
    try simp only [Int.toNat_natCast, w63, w14, w16, t2]
    obtain ⟨e2, t2⟩ := s12
    have pin := prM_in hI 2
    have mp := meanP_in pin g7
    have hI2 := hI.ep e2
    have w63 := e2.row 63 (fun _ => rfl)
    have w16 : h12 57 16 = h 57 16 := e2 57 16 rfl
    have w14 : h12 57 14 = h 57 14 := e2 57 14 rfl
    have q1 := pin.1
    have q2 := pin.2.1
    refine AW.istore2n (pc' := 16) dX12_needed_15 (by decide) rfl ?_
    refine AW.iload_n (pc' := 17) dX12_needed_16 rfl ?_
    refine AW.ldc (v := -2000000000) (pc' := 19) dX12_needed_17 kX12_156 ?_
    refine AW.icmp_eq (tgt := 31) (pc' := 22) dX12_needed_19 (by first | assumption | omega | (constructor <;> omega) | (simp only [Int.toNat_natCast]; omega) | exact b2_in _) (by first | assumption | omega | (constructor <;> omega) | (simp only [Int.toNat_natCast]; omega) | exact b2_in _) (fun c19 => ?_) (fun c19 => ?_)
    · refine AW.bipush (pc' := 33) dX12_needed_31 (by decide) ?_
      refine AW.iret dX12_needed_33 ?_ ?_
      · refine congrArg (fun z : Int => (some (vI z) : Option AV)) ?_
        (repeat' split) <;> first | rfl | omega
      · first | exact EP.rf | exact e2
    · refine AW.aload_n (pc' := 23) dX12_needed_22 rfl ?_
      refine AW.getR (pc' := 26) dX12_needed_23 ly_57 fX12_25 rfl ?_
      refine AW.iload_n (pc' := 27) dX12_needed_26 rfl ?_
      first | refine AW.ialdN (pc' := 28) dX12_needed_27 ly_63 (by first | assumption | omega | (constructor <;> omega) | (simp only [Int.toNat_natCast]; omega) | exact b2_in _) (by decide) (fun r27 => ?_) | refine AW.iald (pc' := 28) dX12_needed_27 ly_63 (by first | assumption | omega | (constructor <;> omega) | (simp only [Int.toNat_natCast]; omega) | exact b2_in _) (by first | assumption | omega | (constructor <;> omega) | (simp only [Int.toNat_natCast]; omega) | exact b2_in _) (by decide) (fun r27 => ?_)
      try simp only [w63, w14, w16, t2] at r27 ⊢
      refine AW.if_ne (tgt := 34) (pc' := 31) dX12_needed_28 (by first | assumption | omega | (constructor <;> omega) | (simp only [Int.toNat_natCast]; omega) | exact b2_in _) (fun c28 => ?_) (fun c28 => ?_)
      · refine AW.aload_n (pc' := 35) dX12_needed_34 rfl ?_
        refine AW.getI (pc' := 38) dX12_needed_35 ly_57 fX12_259 rfl (fun r35 => ?_)
        try simp only [w63, w14, w16, t2] at r35 ⊢
        refine AW.istore3n (pc' := 39) dX12_needed_38 (by decide) rfl ?_
        refine AW.lconst_0 (pc' := 40) dX12_needed_39 ?_
        refine AW.lstore4 (pc' := 42) dX12_needed_40 (by decide) rfl ?_
        refine AW.iconst (pc' := 43) dX12_needed_42 ?_
        refine AW.istore6 (pc' := 45) dX12_needed_43 (by decide) rfl ?_
        have m2 : -12000000 ≤ meanP (prM h 2) ∧ meanP (prM h 2) ≤ 1000 := by omega
        refine AW.weak (lp_X12_needed hI2 m2 (a := a) (p := h12 57 39) (by omega) (h12 57 16).toNat 0 0 (by rw [w16]; omega) (by omega) (by omega) ?_) (by (repeat' first | exact LSub.e | refine LSub.n ?_ | refine LSub.c ?_ ?_) <;> first | rfl | exact congrArg Sum.inl (by first | rfl | omega | omega) | exact congrArg (fun z : Int => (vL z : AV)) (by first | rfl | omega | omega))
        have nb := nsL_in hI m2 (h 57 16).toNat 0 0 (by omega) (by omega) (by omega)
        have z : lp (nsM h12 (meanP (prM h 2))) (h12 57 16).toNat 0 0 = lp (nsM h (meanP (prM h 2))) (h 57 16).toNat 0 0 := by rw [nsM_ep e2, w16]
        rw [z]
        have p0 : (prM h 2).1 ≠ 0 := by omega
        have tn := tdiv_le (a := lp (nsM h (meanP (prM h 2))) (h 57 16).toNat 0 0) (b := (prM h 2).1) nb.1 (by omega)
        have g0 : h 63 a.toNat ≠ 0 := by omega
        have sq := sq99 gb.2.2.1 gb.2.2.2.1 g0
        refine AW.ldc2 (v := 4) (pc' := 109) dX12_needed_106 klX12_337 ?_
        refine AW.lload (pc' := 111) dX12_needed_109 rfl ?_
        refine AW.iload_n (pc' := 112) dX12_needed_111 rfl ?_
        refine AW.i2l (pc' := 113) dX12_needed_112 (by first | assumption | omega | (constructor <;> omega) | (simp only [Int.toNat_natCast]; omega) | exact b2_in _) ?_
        refine AW.ldiv (pc' := 114) dX12_needed_113 (by first | assumption | omega | (constructor <;> omega) | (simp only [Int.toNat_natCast]; omega) | exact b2_in _) (by first | assumption | omega | (constructor <;> omega) | (simp only [Int.toNat_natCast]; omega) | exact b2_in _) (by first | assumption | omega | (constructor <;> omega) | (simp only [Int.toNat_natCast]; omega) | exact b2_in _) ?_
        refine AW.lmul (pc' := 115) dX12_needed_114 ?_
        refine AW.lstore6 (pc' := 117) dX12_needed_115 (by decide) rfl ?_
        refine AW.aload_n (pc' := 118) dX12_needed_117 rfl ?_
        refine AW.getR (pc' := 121) dX12_needed_118 ly_57 fX12_25 rfl ?_
        refine AW.iload_n (pc' := 122) dX12_needed_121 rfl ?_
        first | refine AW.ialdN (pc' := 123) dX12_needed_122 ly_63 (by first | assumption | omega | (constructor <;> omega) | (simp only [Int.toNat_natCast]; omega) | exact b2_in _) (by decide) (fun r122 => ?_) | refine AW.iald (pc' := 123) dX12_needed_122 ly_63 (by first | assumption | omega | (constructor <;> omega) | (simp only [Int.toNat_natCast]; omega) | exact b2_in _) (by first | assumption | omega | (constructor <;> omega) | (simp only [Int.toNat_natCast]; omega) | exact b2_in _) (by decide) (fun r122 => ?_)
        try simp only [w63, w14, w16, t2] at r122 ⊢
        refine AW.aload_n (pc' := 124) dX12_needed_123 rfl ?_
        refine AW.getR (pc' := 127) dX12_needed_124 ly_57 fX12_25 rfl ?_
        refine AW.iload_n (pc' := 128) dX12_needed_127 rfl ?_
        first | refine AW.ialdN (pc' := 129) dX12_needed_128 ly_63 (by first | assumption | omega | (constructor <;> omega) | (simp only [Int.toNat_natCast]; omega) | exact b2_in _) (by decide) (fun r128 => ?_) | refine AW.iald (pc' := 129) dX12_needed_128 ly_63 (by first | assumption | omega | (constructor <;> omega) | (simp only [Int.toNat_natCast]; omega) | exact b2_in _) (by first | assumption | omega | (constructor <;> omega) | (simp only [Int.toNat_natCast]; omega) | exact b2_in _) (by decide) (fun r128 => ?_)
        try simp only [w63, w14, w16, t2] at r128 ⊢
        refine AW.imul (pc' := 130) dX12_needed_129 ?_
        refine AW.i2l (pc' := 131) dX12_needed_130 (by first | assumption | omega | (constructor <;> omega) | (simp only [Int.toNat_natCast]; omega) | exact b2_in _) ?_
        refine AW.lstore8 (pc' := 133) dX12_needed_131 (by decide) rfl ?_
        refine AW.iconst (pc' := 134) dX12_needed_133 ?_
        refine AW.istore10 (pc' := 136) dX12_needed_134 (by decide) rfl ?_
        have z2 : 4 * (lp (nsM h (meanP (prM h 2))) (h 57 16).toNat 0 0).tdiv (prM h 2).1 = 4 * snF h := rfl
        rw [z2]
        rw [if_neg (by omega), if_neg (by omega)]
        have sf : 0 ≤ snF h ∧ snF h ≤ 48000000000000000 := by unfold snF; omega
        refine AW.weak (AW.post (lp_X12_needed2 (h := h12) (a := a) (mean := meanP (prM h 2)) (p := (prM h 2).1) (s := lp (nsM h (meanP (prM h 2))) (h 57 16).toNat 0 0) sq (by omega) 999 1 (by omega) (by omega)) (fun x hx => by rw [← hx]; exact e2)) (by (repeat' first | exact LSub.e | refine LSub.n ?_ | refine LSub.c ?_ ?_) <;> first | rfl | exact congrArg Sum.inl (by first | rfl | omega | omega) | exact congrArg (fun z : Int => (vL z : AV)) (by first | rfl | omega | omega))
      · refine AW.bipush (pc' := 33) dX12_needed_31 (by decide) ?_
        refine AW.iret dX12_needed_33 ?_ ?_
        · refine congrArg (fun z : Int => (some (vI z) : Option AV)) ?_
          (repeat' split) <;> first | rfl | omega
        · first | exact EP.rf | exact e2
  · refine AW.iconst (pc' := 9) dX12_needed_8 ?_
    refine AW.iret dX12_needed_9 ?_ ?_
    · refine congrArg (fun z : Int => (some (vI z) : Option AV)) ?_
      (repeat' split) <;> first | rfl | omega
    · first | exact EP.rf | exact e2
