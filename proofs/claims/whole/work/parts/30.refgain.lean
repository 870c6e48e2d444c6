/-! the reference: beside, gain -/
def bsS (ra : Int → Int → T4 × Int) (c : Int) (y : Nat) (s : Int × Int) : Int × Int := if (ra c y).1.2.2.1 = 0 ∨ (ra c y).1.2.2.2 = 0 then s else (s.1 + 1, s.2 + besF (ra c y).1.1 (ra c y).1.2.2.1 (ra c y).1.2.1 (ra c y).1.2.2.2)
def bcS (ra : Int → Int → T4 × Int) (c : Nat) (s : Int × Int) : Int × Int := lp (bsS ra c) 100 0 s
abbrev bsM (h : Hp) : Int × Int := lp (bcS (raM h)) (h 57 15).toNat 0 (0, 0)
theorem bsS_in (ra : Int → Int → T4 × Int) (c : Int) (y : Nat) (s : Int × Int) : s.1 ≤ (bsS ra c y s).1 ∧ (bsS ra c y s).1 ≤ s.1 + 1 := by unfold bsS; split <;> (try simp only) <;> omega
theorem bsL_in (ra : Int → Int → T4 × Int) (c : Int) : ∀ (n k : Nat) (s : Int × Int), s.1 ≤ (lp (bsS ra c) n k s).1 ∧ (lp (bsS ra c) n k s).1 ≤ s.1 + n
  | 0, k, s => by unfold lp; omega
  | n + 1, k, s => by
    unfold lp
    have a := bsS_in ra c k s
    have b := bsL_in ra c n (k + 1) (bsS ra c k s)
    omega
theorem bcL_in (ra : Int → Int → T4 × Int) : ∀ (n k : Nat) (s : Int × Int), s.1 ≤ (lp (bcS ra) n k s).1 ∧ (lp (bcS ra) n k s).1 ≤ s.1 + 100 * n
  | 0, k, s => by unfold lp; omega
  | n + 1, k, s => by
    unfold lp
    have a := bsL_in ra k 100 0 s
    have b := bcL_in ra n (k + 1) (bcS ra k s)
    have c : bcS ra k s = lp (bsS ra k) 100 0 s := rfl
    rw [← c] at a
    omega
set_option maxRecDepth 100000 in
set_option maxHeartbeats 4000000 in
theorem lp_X12_besideY {K : KT} {X : XT} {dep : Nat} {h : Hp} {c : Nat} (hI : IMa h) (qc : c ≤ 5) (hd : 3 ≤ dep) : ∀ (n k : Nat) (s : Int × Int) (h1 : Hp), k + n = 100 → EP mscr h h1 → 0 ≤ s.1 → s.1 ≤ 100 * (c : Int) + k → (∀ h2 : Hp, EP mscr h h2 → AW K X RX12 cX12_beside 5 (some .int) dep 79 [some (vR 57), some (vI ((lp (bsS (raM h) c) n k s).1)), some (vI ((lp (bsS (raM h) c) n k s).2)), some (vI ((c : Int))), none] [] h2) → AW K X RX12 cX12_beside 5 (some .int) dep 17 [some (vR 57), some (vI (s.1)), some (vI (s.2)), some (vI ((c : Int))), some (vI ((k : Int)))] [] h1 := by
  have g6 := hI.2.2.2.1
  have g7 := hI.2.2.2.2.1
  have g8 := hI.2.1.2.1
  intro n
  induction n with
  | zero =>
    intro k s h1 hk e1 i0 i1 kk
    refine AW.iload (pc' := 19) dX12_beside_17 rfl ?_
    refine AW.bipush (pc' := 21) dX12_beside_19 (by decide) ?_
    refine AW.icmp_ge (tgt := 79) (pc' := 24) dX12_beside_21 (by first | assumption | omega | (constructor <;> omega) | (simp only [Int.toNat_natCast]; omega) | exact b2_in _) (by first | assumption | omega | (constructor <;> omega) | (simp only [Int.toNat_natCast]; omega) | exact b2_in _) (fun c21 => ?_) (fun c21 => ?_)
    · exact AW.weak (kk h1 e1) (by (repeat' first | exact LSub.e | refine LSub.n ?_ | refine LSub.c ?_ ?_) <;> first | rfl | exact congrArg Sum.inl (by first | rfl | omega | omega) | exact congrArg (fun z : Int => (vL z : AV)) (by first | rfl | omega | omega))
    · omega
  | succ n ih =>
    intro k s h1 hk e1 i0 i1 kk
    have w13 : h1 57 16 = h 57 16 := e1 57 16 rfl
    have w66 := e1.row 66 (fun _ => rfl)
    have w68 := e1.row 68 (fun _ => rfl)
    have w69 := e1.row 69 (fun _ => rfl)
    have w70 := e1.row 70 (fun _ => rfl)
    have w67 := e1.row 67 (fun _ => rfl)
    have w65 := e1.row 65 (fun _ => rfl)
    have w63 := e1.row 63 (fun _ => rfl)
    have w15 : h1 57 15 = h 57 15 := e1 57 15 rfl
    have w14 : h1 57 13 = h 57 13 := e1 57 13 rfl
    have hI_w := hI.ep e1
    have ra := raM_ep e1 c k
    have ri := raM_in hI c k
    obtain ⟨⟨a1, a2, a3, a4, a5, a6, a7⟩, a8, a9⟩ := ri
    have sb := bsS_in (raM h) c k s
    have bf : (raM h c k).1.2.2.1 ≠ 0 → (raM h c k).1.2.2.2 ≠ 0 → True := fun _ _ => trivial
    refine AW.iload (pc' := 19) dX12_beside_17 rfl ?_
    refine AW.bipush (pc' := 21) dX12_beside_19 (by decide) ?_
    refine AW.icmp_ge (tgt := 79) (pc' := 24) dX12_beside_21 (by first | assumption | omega | (constructor <;> omega) | (simp only [Int.toNat_natCast]; omega) | exact b2_in _) (by first | assumption | omega | (constructor <;> omega) | (simp only [Int.toNat_natCast]; omega) | exact b2_in _) (fun c21 => ?_) (fun c21 => ?_)
    · omega
    · refine AW.aload_n (pc' := 25) dX12_beside_24 rfl ?_
      refine AW.iload_n (pc' := 26) dX12_beside_25 rfl ?_
      refine AW.iload (pc' := 28) dX12_beside_26 rfl ?_
      refine AW.invQ2v (pc' := 31) dX12_beside_28 mlX12_298 mX12_findRace ly_57 rfl (c_X12_findRace (dep := dep - 1) (by first | assumption | omega | (constructor <;> omega) | (simp only [Int.toNat_natCast]; omega) | exact b2_in _) (by first | assumption | omega | (constructor <;> omega) | (simp only [Int.toNat_natCast]; omega) | exact b2_in _) (by first | assumption | omega | (constructor <;> omega) | (simp only [Int.toNat_natCast]; omega) | exact b2_in _) (by first | assumption | omega | (constructor <;> omega) | (simp only [Int.toNat_natCast]; omega) | exact b2_in _)) (fun h28 s28 => ?_)
      try simp only [Int.toNat_natCast, u1, u2, u3, u4]
      obtain ⟨e2, t2⟩ := s28
      have e3 := e1.tr e2
      rw [ra] at t2
      have u1 : h28 57 41 = (raM h c k).1.1 := by rw [← t2]; rfl
      have u2 : h28 57 43 = (raM h c k).1.2.1 := by rw [← t2]; rfl
      have u3 : h28 57 42 = (raM h c k).1.2.2.1 := by rw [← t2]; rfl
      have u4 : h28 57 44 = (raM h c k).1.2.2.2 := by rw [← t2]; rfl
      refine AW.aload_n (pc' := 32) dX12_beside_31 rfl ?_
      refine AW.getI (pc' := 35) dX12_beside_32 ly_57 fX12_283 rfl (fun r32 => ?_)
      try simp only [u1, u2, u3, u4] at r32 ⊢
      refine AW.if_eq (tgt := 73) (pc' := 38) dX12_beside_35 (by first | assumption | omega | (constructor <;> omega) | (simp only [Int.toNat_natCast]; omega) | exact b2_in _) (fun c35 => ?_) (fun c35 => ?_)
      · refine AW.iinc4 (pc' := 76) dX12_beside_73 (by decide) rfl ?_
        refine AW.goto (tgt := 17) dX12_beside_76 ?_
        have z : bsS (raM h) c k s = s := by
          unfold bsS
          rw [if_pos (by omega)]
        exact AW.weak (ih (k + 1) (bsS (raM h) c k s) _ (by omega) e3 (by omega) (by omega) kk) (by (repeat' first | exact LSub.e | refine LSub.n ?_ | refine LSub.c ?_ ?_) <;> first | rfl | exact congrArg Sum.inl (by first | rfl | omega | first | (push_cast; omega) | (rw [z])) | exact congrArg (fun z : Int => (vL z : AV)) (by first | rfl | omega | first | (push_cast; omega) | (rw [z])))
      · refine AW.aload_n (pc' := 39) dX12_beside_38 rfl ?_
        refine AW.getI (pc' := 42) dX12_beside_39 ly_57 fX12_289 rfl (fun r39 => ?_)
        try simp only [u1, u2, u3, u4] at r39 ⊢
        refine AW.if_ne (tgt := 48) (pc' := 45) dX12_beside_42 (by first | assumption | omega | (constructor <;> omega) | (simp only [Int.toNat_natCast]; omega) | exact b2_in _) (fun c42 => ?_) (fun c42 => ?_)
        · refine AW.iinc1 (pc' := 51) dX12_beside_48 (by decide) rfl ?_
          refine AW.iload_n (pc' := 52) dX12_beside_51 rfl ?_
          refine AW.aload_n (pc' := 53) dX12_beside_52 rfl ?_
          refine AW.getI (pc' := 56) dX12_beside_53 ly_57 fX12_280 rfl (fun r53 => ?_)
          try simp only [u1, u2, u3, u4] at r53 ⊢
          refine AW.aload_n (pc' := 57) dX12_beside_56 rfl ?_
          refine AW.getI (pc' := 60) dX12_beside_57 ly_57 fX12_283 rfl (fun r57 => ?_)
          try simp only [u1, u2, u3, u4] at r57 ⊢
          refine AW.aload_n (pc' := 61) dX12_beside_60 rfl ?_
          refine AW.getI (pc' := 64) dX12_beside_61 ly_57 fX12_286 rfl (fun r61 => ?_)
          try simp only [u1, u2, u3, u4] at r61 ⊢
          refine AW.aload_n (pc' := 65) dX12_beside_64 rfl ?_
          refine AW.getI (pc' := 68) dX12_beside_65 ly_57 fX12_289 rfl (fun r65 => ?_)
          try simp only [u1, u2, u3, u4] at r65 ⊢
          refine AW.invS4 (pc' := 71) dX12_beside_68 mlX12_302 mX12_besideOf (c_X12_besideOf (dep := dep - 1) (by omega) (by omega) (by omega) (by omega)) ?_
          try simp only [Int.toNat_natCast, u1, u2, u3, u4]
          refine AW.iadd (pc' := 72) dX12_beside_71 ?_
          refine AW.istore2n (pc' := 73) dX12_beside_72 (by decide) rfl ?_
          refine AW.iinc4 (pc' := 76) dX12_beside_73 (by decide) rfl ?_
          refine AW.goto (tgt := 17) dX12_beside_76 ?_
          have z : bsS (raM h) c k s = (s.1 + 1, s.2 + besF (raM h c k).1.1 (raM h c k).1.2.2.1 (raM h c k).1.2.1 (raM h c k).1.2.2.2) := by
            unfold bsS
            rw [if_neg (by omega)]
          exact AW.weak (ih (k + 1) (bsS (raM h) c k s) _ (by omega) e3 (by omega) (by omega) kk) (by (repeat' first | exact LSub.e | refine LSub.n ?_ | refine LSub.c ?_ ?_) <;> first | rfl | exact congrArg Sum.inl (by first | rfl | omega | first | (push_cast; omega) | (rw [z])) | exact congrArg (fun z : Int => (vL z : AV)) (by first | rfl | omega | first | (push_cast; omega) | (rw [z])))
        · refine AW.goto (tgt := 73) dX12_beside_45 ?_
          refine AW.iinc4 (pc' := 76) dX12_beside_73 (by decide) rfl ?_
          refine AW.goto (tgt := 17) dX12_beside_76 ?_
          have z : bsS (raM h) c k s = s := by
            unfold bsS
            rw [if_pos (by omega)]
          exact AW.weak (ih (k + 1) (bsS (raM h) c k s) _ (by omega) e3 (by omega) (by omega) kk) (by (repeat' first | exact LSub.e | refine LSub.n ?_ | refine LSub.c ?_ ?_) <;> first | rfl | exact congrArg Sum.inl (by first | rfl | omega | first | (push_cast; omega) | (rw [z])) | exact congrArg (fun z : Int => (vL z : AV)) (by first | rfl | omega | first | (push_cast; omega) | (rw [z])))
set_option maxRecDepth 100000 in
set_option maxHeartbeats 4000000 in
theorem lp_X12_beside {K : KT} {X : XT} {dep : Nat} {h : Hp} (hI : IMa h) (hd : 3 ≤ dep) : ∀ (n k : Nat) (s : Int × Int) (h1 : Hp), (k : Int) + n = h 57 15 → EP mscr h h1 → 0 ≤ s.1 → s.1 ≤ 100 * (k : Int) → (∀ h2 : Hp, EP mscr h h2 → AW K X RX12 cX12_beside 5 (some .int) dep 85 [some (vR 57), some (vI ((lp (bcS (raM h)) n k s).1)), some (vI ((lp (bcS (raM h)) n k s).2)), none, none] [] h2) → AW K X RX12 cX12_beside 5 (some .int) dep 6 [some (vR 57), some (vI (s.1)), some (vI (s.2)), some (vI ((k : Int))), none] [] h1 := by
  have g6 := hI.2.2.2.1
  have g7 := hI.2.2.2.2.1
  have g8 := hI.2.1.2.1
  have g9 := hI.2.2.1.2.1
  intro n
  induction n with
  | zero =>
    intro k s h1 hk e1 i0 i1 kk
    have w13 : h1 57 16 = h 57 16 := e1 57 16 rfl
    have w66 := e1.row 66 (fun _ => rfl)
    have w68 := e1.row 68 (fun _ => rfl)
    have w69 := e1.row 69 (fun _ => rfl)
    have w70 := e1.row 70 (fun _ => rfl)
    have w67 := e1.row 67 (fun _ => rfl)
    have w65 := e1.row 65 (fun _ => rfl)
    have w63 := e1.row 63 (fun _ => rfl)
    have w15 : h1 57 15 = h 57 15 := e1 57 15 rfl
    have w14 : h1 57 13 = h 57 13 := e1 57 13 rfl
    have hI_w := hI.ep e1
    refine AW.iload_n (pc' := 7) dX12_beside_6 rfl ?_
    refine AW.aload_n (pc' := 8) dX12_beside_7 rfl ?_
    refine AW.getI (pc' := 11) dX12_beside_8 ly_57 fX12_125 rfl (fun r8 => ?_)
    try simp only [w13, w66, w68, w69, w70, w67, w65, w63, w15, w14] at r8 ⊢
    refine AW.icmp_ge (tgt := 85) (pc' := 14) dX12_beside_11 (by first | assumption | omega | (constructor <;> omega) | (simp only [Int.toNat_natCast]; omega) | exact b2_in _) (by first | assumption | omega | (constructor <;> omega) | (simp only [Int.toNat_natCast]; omega) | exact b2_in _) (fun c11 => ?_) (fun c11 => ?_)
    · exact AW.weak (kk h1 e1) (by (repeat' first | exact LSub.e | refine LSub.n ?_ | refine LSub.c ?_ ?_) <;> first | rfl | exact congrArg Sum.inl (by first | rfl | omega | omega) | exact congrArg (fun z : Int => (vL z : AV)) (by first | rfl | omega | omega))
    · omega
  | succ n ih =>
    intro k s h1 hk e1 i0 i1 kk
    have w13 : h1 57 16 = h 57 16 := e1 57 16 rfl
    have w66 := e1.row 66 (fun _ => rfl)
    have w68 := e1.row 68 (fun _ => rfl)
    have w69 := e1.row 69 (fun _ => rfl)
    have w70 := e1.row 70 (fun _ => rfl)
    have w67 := e1.row 67 (fun _ => rfl)
    have w65 := e1.row 65 (fun _ => rfl)
    have w63 := e1.row 63 (fun _ => rfl)
    have w15 : h1 57 15 = h 57 15 := e1 57 15 rfl
    have w14 : h1 57 13 = h 57 13 := e1 57 13 rfl
    have hI_w := hI.ep e1
    have bl := bsL_in (raM h) k 100 0 s
    refine AW.iload_n (pc' := 7) dX12_beside_6 rfl ?_
    refine AW.aload_n (pc' := 8) dX12_beside_7 rfl ?_
    refine AW.getI (pc' := 11) dX12_beside_8 ly_57 fX12_125 rfl (fun r8 => ?_)
    try simp only [w13, w66, w68, w69, w70, w67, w65, w63, w15, w14] at r8 ⊢
    refine AW.icmp_ge (tgt := 85) (pc' := 14) dX12_beside_11 (by first | assumption | omega | (constructor <;> omega) | (simp only [Int.toNat_natCast]; omega) | exact b2_in _) (by first | assumption | omega | (constructor <;> omega) | (simp only [Int.toNat_natCast]; omega) | exact b2_in _) (fun c11 => ?_) (fun c11 => ?_)
    · omega
    · refine AW.iconst (pc' := 15) dX12_beside_14 ?_
      refine AW.istore4 (pc' := 17) dX12_beside_15 (by decide) rfl ?_
      refine AW.weak (lp_X12_besideY hI (c := k) (by omega) hd 100 0 s h1 (by omega) e1 i0 (by omega) (fun h2 e2 => ?_)) (by (repeat' first | exact LSub.e | refine LSub.n ?_ | refine LSub.c ?_ ?_) <;> first | rfl | exact congrArg Sum.inl (by first | rfl | omega | omega) | exact congrArg (fun z : Int => (vL z : AV)) (by first | rfl | omega | omega))
      refine AW.iinc3 (pc' := 82) dX12_beside_79 (by decide) rfl ?_
      refine AW.goto (tgt := 6) dX12_beside_82 ?_
      exact AW.weak (ih (k + 1) (bcS (raM h) k s) _ (by omega) e2 (by show 0 ≤ (lp (bsS (raM h) k) 100 0 s).1; omega) (by show (lp (bsS (raM h) k) 100 0 s).1 ≤ _; push_cast; omega) kk) (by (repeat' first | exact LSub.e | refine LSub.n ?_ | refine LSub.c ?_ ?_) <;> first | rfl | exact congrArg Sum.inl (by first | rfl | omega | (push_cast; omega)) | exact congrArg (fun z : Int => (vL z : AV)) (by first | rfl | omega | (push_cast; omega)))
set_option maxRecDepth 100000 in
set_option maxHeartbeats 4000000 in
theorem c_X12_beside {K : KT} {dep : Nat} {h : Hp}  (hd : 3 ≤ dep) (hI : IMa h) (hb : inI (bsM h).2) : AMp K yX12_beside cX12_beside 5 (some .int) dep [vR 57] h (some (vI (meanP (bsM h)))) (fun x => EP mscr h x) := by
  refine AM.of (own := RX12) (ls := [some (vR 57), none, none, none, none]) rfl (by decide +kernel) (by exact Nat.le_of_ble_eq_true rfl) rfl (fun hO => ?_)
  have g6 := hI.2.2.2.1
  have g7 := hI.2.2.2.2.1
  have g8 := hI.2.1.2.1
  have g9 := hI.2.2.1.2.1
  have g10 := hI.2.2.1.1
  have bl := bcL_in (raM h) (h 57 15).toNat 0 (0, 0)
  simp only at bl
  refine AW.iconst (pc' := 1) dX12_beside_0 ?_
  refine AW.istore1n (pc' := 2) dX12_beside_1 (by decide) rfl ?_
  refine AW.iconst (pc' := 3) dX12_beside_2 ?_
  refine AW.istore2n (pc' := 4) dX12_beside_3 (by decide) rfl ?_
  refine AW.iconst (pc' := 5) dX12_beside_4 ?_
  refine AW.istore3n (pc' := 6) dX12_beside_5 (by decide) rfl ?_
  refine AW.weak (lp_X12_beside hI hd (h 57 15).toNat 0 (0, 0) _ (by omega) EP.rf (by decide) (by decide) (fun h2 e2 => ?_)) (by (repeat' first | exact LSub.e | refine LSub.n ?_ | refine LSub.c ?_ ?_) <;> first | rfl | exact congrArg Sum.inl (by first | rfl | omega | omega) | exact congrArg (fun z : Int => (vL z : AV)) (by first | rfl | omega | omega))
  refine AW.iload_n (pc' := 86) dX12_beside_85 rfl ?_
  refine AW.if_ne (tgt := 94) (pc' := 89) dX12_beside_86 (by first | assumption | omega | (constructor <;> omega) | (simp only [Int.toNat_natCast]; omega) | exact b2_in _) (fun c86 => ?_) (fun c86 => ?_)
  · refine AW.iload_n (pc' := 95) dX12_beside_94 rfl ?_
    refine AW.iload_n (pc' := 96) dX12_beside_95 rfl ?_
    refine AW.idiv (pc' := 97) dX12_beside_96 (by first | assumption | omega | (constructor <;> omega) | (simp only [Int.toNat_natCast]; omega) | exact b2_in _) (by first | assumption | omega | (constructor <;> omega) | (simp only [Int.toNat_natCast]; omega) | exact b2_in _) (by first | assumption | omega | (constructor <;> omega) | (simp only [Int.toNat_natCast]; omega) | exact b2_in _) ?_
    refine AW.iret dX12_beside_97 ?_ ?_
    · refine congrArg (fun z : Int => (some (vI z) : Option AV)) ?_
      unfold meanP
      first | (rw [if_pos (by assumption)]; done) | (rw [if_neg (by assumption)]; done)
    · exact e2
  · refine AW.ldc (v := -2000000000) (pc' := 91) dX12_beside_89 kX12_156 ?_
    refine AW.goto (tgt := 97) dX12_beside_91 ?_
    refine AW.iret dX12_beside_97 ?_ ?_
    · refine congrArg (fun z : Int => (some (vI z) : Option AV)) ?_
      unfold meanP
      first | (rw [if_pos (by assumption)]; done) | (rw [if_neg (by assumption)]; done)
    · exact e2
abbrev sinM (h : Hp) : Int := lessV (meanP (prM h 0)) (meanP (prM h 2))
def bkM (b : Int) : Int := if b = -2000000000 then b else -b
def lsF (a b : Int) : Int := if a = -2000000000 then b else if b = -2000000000 then a else if a < b then a else b
def gtF (a b : Int) : Int := if a = -2000000000 then b else if b = -2000000000 then a else if b < a then a else b
theorem bsM_ep {h h1 : Hp} (e : EP mscr h h1) : bsM h1 = bsM h := by
  have z : raM h1 = raM h := funext fun c => funext fun y => raM_ep e c y
  simp only [bsM]
  rw [z, e 57 15 rfl]
set_option maxRecDepth 100000 in
set_option maxHeartbeats 4000000 in
theorem c_X12_gain {K : KT} {dep : Nat} {h : Hp} {a : Int} (hd : 5 ≤ dep) (hI : IMa h) (hb : -1500000000 ≤ meanP (bsM h) ∧ meanP (bsM h) ≤ 1500000000 ∨ meanP (bsM h) = -2000000000) (hb2 : inI (bsM h).2) (q3 : inI a) : AMp K yX12_gain cX12_gain 5 (some .int) dep [vR 57, vI a] h (some (vI (if ¬ (0 ≤ a ∧ a ≤ 4) then -2000000000 else if a = 0 then sinM h else if a = 1 then meanP (bsM h) else if a = 2 then lessV (meanP (bsM h)) (sinM h) else if a = 3 then lsF (sinM h) (lsF (meanP (bsM h)) (bkM (meanP (prM h 1)))) else gtF (sinM h) (gtF (meanP (bsM h)) (bkM (meanP (prM h 1))))))) (fun x => EP mscr h x) := by
  refine AM.of (own := RX12) (ls := [some (vR 57), some (vI a), none, none, none]) rfl (by decide +kernel) (by exact Nat.le_of_ble_eq_true rfl) rfl (fun hO => ?_)
  have g6 := hI.2.2.2.1
  have g7 := hI.2.2.2.2.1
  have g8 := hI.2.1.2.1
  have m0 := meanP_in (prM_in hI 0) g7
  have m1 := meanP_in (prM_in hI 1) g7
  have m2 := meanP_in (prM_in hI 2) g7
  have ls : -30000000 ≤ sinM h ∧ sinM h ≤ 30000000 ∨ sinM h = -2000000000 := by simp only [sinM]; unfold lessV; split <;> omega
  refine AW.iload_n (pc' := 1) dX12_gain_0 rfl ?_
  refine AW.iconst (pc' := 2) dX12_gain_1 ?_
  refine AW.iconst (pc' := 3) dX12_gain_2 ?_
  refine AW.invS3 (pc' := 6) dX12_gain_3 mlX12_117 mX12_isIn (c_X12_isIn (dep := dep - 1) (by first | assumption | omega | (constructor <;> omega) | (simp only [Int.toNat_natCast]; omega) | exact b2_in _) (by first | assumption | omega | (constructor <;> omega) | (simp only [Int.toNat_natCast]; omega) | exact b2_in _) (by first | assumption | omega | (constructor <;> omega) | (simp only [Int.toNat_natCast]; omega) | exact b2_in _)) ?_
  refine AW.ifb_ne (tgt := 12) (pc' := 9) dX12_gain_6 (fun c6 => ?_) (fun c6 => ?_)
  · refine AW.aload_n (pc' := 13) dX12_gain_12 rfl ?_
    refine AW.invQ0 (pc' := 16) dX12_gain_13 mlX12_306 mX12_since ly_57 rfl (c_X12_since (dep := dep - 1) (by first | assumption | omega | (constructor <;> omega) | (simp only [Int.toNat_natCast]; omega) | exact b2_in _) (by first | assumption | omega | (constructor <;> omega) | (simp only [Int.toNat_natCast]; omega) | exact b2_in _)) (fun h13 s13 => ?_)
    have hI2 := hI.ep s13
    have hb3 : inI (bsM h13).2 := by rw [bsM_ep s13]; exact hb2
    rw [show lessV (meanP (prM h 0)) (meanP (prM h 2)) = sinM h from rfl]
    generalize hls : sinM h = LS at ls ⊢
    refine AW.istore2n (pc' := 17) dX12_gain_16 (by decide) rfl ?_
    refine AW.aload_n (pc' := 18) dX12_gain_17 rfl ?_
    refine AW.invQ0 (pc' := 21) dX12_gain_18 mlX12_310 mX12_beside ly_57 rfl (c_X12_beside (dep := dep - 1) (by first | assumption | omega | (constructor <;> omega) | (simp only [Int.toNat_natCast]; omega) | exact b2_in _) (by first | assumption | omega | (constructor <;> omega) | (simp only [Int.toNat_natCast]; omega) | exact b2_in _) (by first | assumption | omega | (constructor <;> omega) | (simp only [Int.toNat_natCast]; omega) | exact b2_in _)) (fun h18 s18 => ?_)
    rw [bsM_ep s13]
    have e3 := s13.tr s18
    have hI3 := hI.ep e3
    generalize hmb : meanP (bsM h) = MB at hb ⊢
    refine AW.istore3n (pc' := 22) dX12_gain_21 (by decide) rfl ?_
    refine AW.aload_n (pc' := 23) dX12_gain_22 rfl ?_
    refine AW.iconst (pc' := 24) dX12_gain_23 ?_
    refine AW.invQ1 (pc' := 27) dX12_gain_24 mlX12_277 mX12_meanOf ly_57 rfl (c_X12_meanOf (dep := dep - 1) (by first | assumption | omega | (constructor <;> omega) | (simp only [Int.toNat_natCast]; omega) | exact b2_in _) (by first | assumption | omega | (constructor <;> omega) | (simp only [Int.toNat_natCast]; omega) | exact b2_in _) (by first | assumption | omega | (constructor <;> omega) | (simp only [Int.toNat_natCast]; omega) | exact b2_in _)) (fun h24 s24 => ?_)
    obtain ⟨e4, -⟩ := s24
    have e5 := e3.tr e4
    rw [prM_ep e3]
    generalize hm1 : meanP (prM h 1) = M1 at m1 ⊢
    refine AW.istore4 (pc' := 29) dX12_gain_27 (by decide) rfl ?_
    refine AW.iload (pc' := 31) dX12_gain_29 rfl ?_
    refine AW.ldc (v := -2000000000) (pc' := 33) dX12_gain_31 kX12_156 ?_
    refine AW.icmp_eq (tgt := 41) (pc' := 36) dX12_gain_33 (by first | assumption | omega | (constructor <;> omega) | (simp only [Int.toNat_natCast]; omega) | exact b2_in _) (by first | assumption | omega | (constructor <;> omega) | (simp only [Int.toNat_natCast]; omega) | exact b2_in _) (fun c33 => ?_) (fun c33 => ?_)
    · refine AW.iload_n (pc' := 42) dX12_gain_41 rfl ?_
      by_cases s42_0 : a = 0
      · refine AW.top s42_0 ?_
        refine AW.tableIn (tgt := 72) (off := 30) dX12_gain_42 (by decide) (by decide) (by decide) rfl ?_
        refine AW.iload_n (pc' := 73) dX12_gain_72 rfl ?_
        refine AW.iret dX12_gain_73 ?_ ?_
        · refine congrArg (fun z : Int => (some (vI z) : Option AV)) ?_
          unfold lessV lsF gtF bkM at *
          (repeat' split) <;> first | rfl | omega
        · first | exact EP.rf | exact e5
      by_cases s42_1 : a = 1
      · refine AW.top s42_1 ?_
        refine AW.tableIn (tgt := 74) (off := 32) dX12_gain_42 (by decide) (by decide) (by decide) rfl ?_
        refine AW.iload_n (pc' := 75) dX12_gain_74 rfl ?_
        refine AW.iret dX12_gain_75 ?_ ?_
        · refine congrArg (fun z : Int => (some (vI z) : Option AV)) ?_
          unfold lessV lsF gtF bkM at *
          (repeat' split) <;> first | rfl | omega
        · first | exact EP.rf | exact e5
      by_cases s42_2 : a = 2
      · refine AW.top s42_2 ?_
        refine AW.tableIn (tgt := 76) (off := 34) dX12_gain_42 (by decide) (by decide) (by decide) rfl ?_
        refine AW.iload_n (pc' := 77) dX12_gain_76 rfl ?_
        refine AW.ldc (v := -2000000000) (pc' := 79) dX12_gain_77 kX12_156 ?_
        refine AW.icmp_eq (tgt := 88) (pc' := 82) dX12_gain_79 (by first | assumption | omega | (constructor <;> omega) | (simp only [Int.toNat_natCast]; omega) | exact b2_in _) (by first | assumption | omega | (constructor <;> omega) | (simp only [Int.toNat_natCast]; omega) | exact b2_in _) (fun c79 => ?_) (fun c79 => ?_)
        · refine AW.ldc (v := -2000000000) (pc' := 90) dX12_gain_88 kX12_156 ?_
          refine AW.goto (tgt := 96) dX12_gain_90 ?_
          refine AW.iret dX12_gain_96 ?_ ?_
          · refine congrArg (fun z : Int => (some (vI z) : Option AV)) ?_
            unfold lessV lsF gtF bkM at *
            (repeat' split) <;> first | rfl | omega
          · first | exact EP.rf | exact e5
        · refine AW.iload_n (pc' := 83) dX12_gain_82 rfl ?_
          refine AW.ldc (v := -2000000000) (pc' := 85) dX12_gain_83 kX12_156 ?_
          refine AW.icmp_ne (tgt := 93) (pc' := 88) dX12_gain_85 (by first | assumption | omega | (constructor <;> omega) | (simp only [Int.toNat_natCast]; omega) | exact b2_in _) (by first | assumption | omega | (constructor <;> omega) | (simp only [Int.toNat_natCast]; omega) | exact b2_in _) (fun c85 => ?_) (fun c85 => ?_)
          · refine AW.iload_n (pc' := 94) dX12_gain_93 rfl ?_
            refine AW.iload_n (pc' := 95) dX12_gain_94 rfl ?_
            refine AW.isub (pc' := 96) dX12_gain_95 ?_
            refine AW.iret dX12_gain_96 ?_ ?_
            · refine congrArg (fun z : Int => (some (vI z) : Option AV)) ?_
              unfold lessV lsF gtF bkM at *
              (repeat' split) <;> first | rfl | omega
            · first | exact EP.rf | exact e5
          · refine AW.ldc (v := -2000000000) (pc' := 90) dX12_gain_88 kX12_156 ?_
            refine AW.goto (tgt := 96) dX12_gain_90 ?_
            refine AW.iret dX12_gain_96 ?_ ?_
            · refine congrArg (fun z : Int => (some (vI z) : Option AV)) ?_
              unfold lessV lsF gtF bkM at *
              (repeat' split) <;> first | rfl | omega
            · first | exact EP.rf | exact e5
      by_cases s42_3 : a = 3
      · refine AW.top s42_3 ?_
        refine AW.tableIn (tgt := 97) (off := 55) dX12_gain_42 (by decide) (by decide) (by decide) rfl ?_
        skip
        refine AW.iload_n (pc' := 98) dX12_gain_97 rfl ?_
        refine AW.iload_n (pc' := 99) dX12_gain_98 rfl ?_
        refine AW.iload (pc' := 101) dX12_gain_99 rfl ?_
        refine AW.invS2 (pc' := 104) dX12_gain_101 mlX12_313 mX12_least (c_X12_least (dep := dep - 1) (by first | assumption | omega | (constructor <;> omega) | (simp only [Int.toNat_natCast]; omega) | exact b2_in _) (by first | assumption | omega | (constructor <;> omega) | (simp only [Int.toNat_natCast]; omega) | exact b2_in _)) ?_
        refine AW.invS2 (pc' := 107) dX12_gain_104 mlX12_313 mX12_least (c_X12_least (dep := dep - 1) (by first | assumption | omega | (constructor <;> omega) | (simp only [Int.toNat_natCast]; omega) | exact b2_in _) (by first | assumption | omega | (constructor <;> omega) | (simp only [Int.toNat_natCast]; omega) | exact b2_in _)) ?_
        refine AW.iret dX12_gain_107 ?_ ?_
        · refine congrArg (fun z : Int => (some (vI z) : Option AV)) ?_
          unfold lessV lsF gtF bkM at *
          (repeat' split) <;> first | rfl | omega
        · first | exact EP.rf | exact e5
      refine AW.tableOut (tgt := 108) dX12_gain_42 (by first | assumption | omega | (constructor <;> omega) | (simp only [Int.toNat_natCast]; omega) | exact b2_in _) (by omega) ?_
      refine AW.iload_n (pc' := 109) dX12_gain_108 rfl ?_
      refine AW.iload_n (pc' := 110) dX12_gain_109 rfl ?_
      refine AW.iload (pc' := 112) dX12_gain_110 rfl ?_
      refine AW.invS2 (pc' := 115) dX12_gain_112 mlX12_316 mX12_greatest (c_X12_greatest (dep := dep - 1) (by first | assumption | omega | (constructor <;> omega) | (simp only [Int.toNat_natCast]; omega) | exact b2_in _) (by first | assumption | omega | (constructor <;> omega) | (simp only [Int.toNat_natCast]; omega) | exact b2_in _)) ?_
      refine AW.invS2 (pc' := 118) dX12_gain_115 mlX12_316 mX12_greatest (c_X12_greatest (dep := dep - 1) (by first | assumption | omega | (constructor <;> omega) | (simp only [Int.toNat_natCast]; omega) | exact b2_in _) (by first | assumption | omega | (constructor <;> omega) | (simp only [Int.toNat_natCast]; omega) | exact b2_in _)) ?_
      refine AW.iret dX12_gain_118 ?_ ?_
      · refine congrArg (fun z : Int => (some (vI z) : Option AV)) ?_
        unfold lessV lsF gtF bkM at *
        (repeat' split) <;> first | rfl | omega
      · first | exact EP.rf | exact e5
    · refine AW.iload (pc' := 38) dX12_gain_36 rfl ?_
      refine AW.ineg (pc' := 39) dX12_gain_38 ?_
      refine AW.istore4 (pc' := 41) dX12_gain_39 (by decide) rfl ?_
      refine AW.iload_n (pc' := 42) dX12_gain_41 rfl ?_
      by_cases s42_0 : a = 0
      · refine AW.top s42_0 ?_
        refine AW.tableIn (tgt := 72) (off := 30) dX12_gain_42 (by decide) (by decide) (by decide) rfl ?_
        refine AW.iload_n (pc' := 73) dX12_gain_72 rfl ?_
        refine AW.iret dX12_gain_73 ?_ ?_
        · refine congrArg (fun z : Int => (some (vI z) : Option AV)) ?_
          unfold lessV lsF gtF bkM at *
          (repeat' split) <;> first | rfl | omega
        · first | exact EP.rf | exact e5
      by_cases s42_1 : a = 1
      · refine AW.top s42_1 ?_
        refine AW.tableIn (tgt := 74) (off := 32) dX12_gain_42 (by decide) (by decide) (by decide) rfl ?_
        refine AW.iload_n (pc' := 75) dX12_gain_74 rfl ?_
        refine AW.iret dX12_gain_75 ?_ ?_
        · refine congrArg (fun z : Int => (some (vI z) : Option AV)) ?_
          unfold lessV lsF gtF bkM at *
          (repeat' split) <;> first | rfl | omega
        · first | exact EP.rf | exact e5
      by_cases s42_2 : a = 2
      · refine AW.top s42_2 ?_
        refine AW.tableIn (tgt := 76) (off := 34) dX12_gain_42 (by decide) (by decide) (by decide) rfl ?_
        refine AW.iload_n (pc' := 77) dX12_gain_76 rfl ?_
        refine AW.ldc (v := -2000000000) (pc' := 79) dX12_gain_77 kX12_156 ?_
        refine AW.icmp_eq (tgt := 88) (pc' := 82) dX12_gain_79 (by first | assumption | omega | (constructor <;> omega) | (simp only [Int.toNat_natCast]; omega) | exact b2_in _) (by first | assumption | omega | (constructor <;> omega) | (simp only [Int.toNat_natCast]; omega) | exact b2_in _) (fun c79 => ?_) (fun c79 => ?_)
        · refine AW.ldc (v := -2000000000) (pc' := 90) dX12_gain_88 kX12_156 ?_
          refine AW.goto (tgt := 96) dX12_gain_90 ?_
          refine AW.iret dX12_gain_96 ?_ ?_
          · refine congrArg (fun z : Int => (some (vI z) : Option AV)) ?_
            unfold lessV lsF gtF bkM at *
            (repeat' split) <;> first | rfl | omega
          · first | exact EP.rf | exact e5
        · refine AW.iload_n (pc' := 83) dX12_gain_82 rfl ?_
          refine AW.ldc (v := -2000000000) (pc' := 85) dX12_gain_83 kX12_156 ?_
          refine AW.icmp_ne (tgt := 93) (pc' := 88) dX12_gain_85 (by first | assumption | omega | (constructor <;> omega) | (simp only [Int.toNat_natCast]; omega) | exact b2_in _) (by first | assumption | omega | (constructor <;> omega) | (simp only [Int.toNat_natCast]; omega) | exact b2_in _) (fun c85 => ?_) (fun c85 => ?_)
          · refine AW.iload_n (pc' := 94) dX12_gain_93 rfl ?_
            refine AW.iload_n (pc' := 95) dX12_gain_94 rfl ?_
            refine AW.isub (pc' := 96) dX12_gain_95 ?_
            refine AW.iret dX12_gain_96 ?_ ?_
            · refine congrArg (fun z : Int => (some (vI z) : Option AV)) ?_
              unfold lessV lsF gtF bkM at *
              (repeat' split) <;> first | rfl | omega
            · first | exact EP.rf | exact e5
          · refine AW.ldc (v := -2000000000) (pc' := 90) dX12_gain_88 kX12_156 ?_
            refine AW.goto (tgt := 96) dX12_gain_90 ?_
            refine AW.iret dX12_gain_96 ?_ ?_
            · refine congrArg (fun z : Int => (some (vI z) : Option AV)) ?_
              unfold lessV lsF gtF bkM at *
              (repeat' split) <;> first | rfl | omega
            · first | exact EP.rf | exact e5
      by_cases s42_3 : a = 3
      · refine AW.top s42_3 ?_
        refine AW.tableIn (tgt := 97) (off := 55) dX12_gain_42 (by decide) (by decide) (by decide) rfl ?_
        skip
        refine AW.iload_n (pc' := 98) dX12_gain_97 rfl ?_
        refine AW.iload_n (pc' := 99) dX12_gain_98 rfl ?_
        refine AW.iload (pc' := 101) dX12_gain_99 rfl ?_
        refine AW.invS2 (pc' := 104) dX12_gain_101 mlX12_313 mX12_least (c_X12_least (dep := dep - 1) (by first | assumption | omega | (constructor <;> omega) | (simp only [Int.toNat_natCast]; omega) | exact b2_in _) (by first | assumption | omega | (constructor <;> omega) | (simp only [Int.toNat_natCast]; omega) | exact b2_in _)) ?_
        refine AW.invS2 (pc' := 107) dX12_gain_104 mlX12_313 mX12_least (c_X12_least (dep := dep - 1) (by first | assumption | omega | (constructor <;> omega) | (simp only [Int.toNat_natCast]; omega) | exact b2_in _) (by first | assumption | omega | (constructor <;> omega) | (simp only [Int.toNat_natCast]; omega) | exact b2_in _)) ?_
        refine AW.iret dX12_gain_107 ?_ ?_
        · refine congrArg (fun z : Int => (some (vI z) : Option AV)) ?_
          unfold lessV lsF gtF bkM at *
          (repeat' split) <;> first | rfl | omega
        · first | exact EP.rf | exact e5
      refine AW.tableOut (tgt := 108) dX12_gain_42 (by first | assumption | omega | (constructor <;> omega) | (simp only [Int.toNat_natCast]; omega) | exact b2_in _) (by omega) ?_
      refine AW.iload_n (pc' := 109) dX12_gain_108 rfl ?_
      refine AW.iload_n (pc' := 110) dX12_gain_109 rfl ?_
      refine AW.iload (pc' := 112) dX12_gain_110 rfl ?_
      refine AW.invS2 (pc' := 115) dX12_gain_112 mlX12_316 mX12_greatest (c_X12_greatest (dep := dep - 1) (by first | assumption | omega | (constructor <;> omega) | (simp only [Int.toNat_natCast]; omega) | exact b2_in _) (by first | assumption | omega | (constructor <;> omega) | (simp only [Int.toNat_natCast]; omega) | exact b2_in _)) ?_
      refine AW.invS2 (pc' := 118) dX12_gain_115 mlX12_316 mX12_greatest (c_X12_greatest (dep := dep - 1) (by first | assumption | omega | (constructor <;> omega) | (simp only [Int.toNat_natCast]; omega) | exact b2_in _) (by first | assumption | omega | (constructor <;> omega) | (simp only [Int.toNat_natCast]; omega) | exact b2_in _)) ?_
      refine AW.iret dX12_gain_118 ?_ ?_
      · refine congrArg (fun z : Int => (some (vI z) : Option AV)) ?_
        unfold lessV lsF gtF bkM at *
        (repeat' split) <;> first | rfl | omega
      · first | exact EP.rf | exact e5
  · refine AW.ldc (v := -2000000000) (pc' := 11) dX12_gain_9 kX12_156 ?_
    refine AW.iret dX12_gain_11 ?_ ?_
    · refine congrArg (fun z : Int => (some (vI z) : Option AV)) ?_
      unfold lessV lsF gtF bkM at *
      (repeat' split) <;> first | rfl | omega
    · first | exact EP.rf | exact e5
