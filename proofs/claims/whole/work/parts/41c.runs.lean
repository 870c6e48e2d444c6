def rnC (len nr nc ns : Int) (row : Nat → Int) (i : Int) : Nat → Nat → Int → Int
  | 0, c, _ => c
  | m + 1, c, s => if rfP s len nr nc ns row (i + 5 * (c : Int)) then rnC len nr nc ns row i m (c + 1) (s + 1) else c
abbrev w5 (row : Nat → Int) (f : Nat) (k : Nat) : Int := wr (row (f + k))
def rnX (g : Hp) (a i : Int) : Nat → Nat → Hp → Hp → Prop
  | 0, _, h, x => x = h
  | m + 1, c, h, x => (¬ rfP (h 12 10) (g 49 a.toNat) (g 1 4) (g 10 1) (g 6 3) (g (51 + a.toNat)) (i + 5 * (c : Int)) ∧ x = h) ∨ (rfP (h 12 10) (g 49 a.toNat) (g 1 4) (g 10 1) (g 6 3) (g (51 + a.toNat)) (i + 5 * (c : Int)) ∧ ∃ h1, CP h (wr (g (51 + a.toNat) (i + 5 * (c : Int)).toNat)) (wr (g (51 + a.toNat) ((i + 5 * (c : Int)).toNat + 1))) (wr (g (51 + a.toNat) ((i + 5 * (c : Int)).toNat + 2))) (wr (g (51 + a.toNat) ((i + 5 * (c : Int)).toNat + 3))) (wr (g (51 + a.toNat) ((i + 5 * (c : Int)).toNat + 4))) h1 ∧ rnX g a i m (c + 1) h1 x)
abbrev R8 : List Nat := [12, 13, 14, 15, 16, 17, 18, 19]
set_option maxRecDepth 100000 in
set_option maxHeartbeats 4000000 in
theorem lp_X11_runs {K : KT} {X : XT} {dep : Nat} {h : Hp} {a i n : Int} (qa : 0 ≤ a ∧ a < 6) (qi : inI i) (ql : 0 ≤ h 49 a.toNat ∧ h 49 a.toNat ≤ 60) (qn : n ≤ 12) (hd : 4 ≤ dep) : ∀ (m k : Nat) (h1 : Hp), (k : Int) + m = n → EX R8 h h1 → PO (h1 12 10) (h1 18) → PO (h1 12 10) (h1 19) → 0 ≤ h1 12 10 ∧ h1 12 10 ≤ 120 → (∀ h2 : Hp, rnX h a i m k h1 h2 → AW K X RX11 cX11_runs 5 (some .int) dep 88 [some (vR 0), some (vI (a)), some (vI (i)), some (vI (n)), some (vI (rnC (h 49 a.toNat) (h 1 4) (h 10 1) (h 6 3) (h (51 + a.toNat)) i m k (h1 12 10)))] [] h2) → AW K X RX11 cX11_runs 5 (some .int) dep 58 [some (vR 0), some (vI (a)), some (vI (i)), some (vI (n)), some (vI ((k : Int)))] [] h1 := by
  intro m
  induction m with
  | zero =>
    intro k h1 hk e1 hP1 hP2 hs kk
    refine AW.iload (pc' := 60) dX11_runs_58 rfl ?_
    refine AW.iload_n (pc' := 61) dX11_runs_60 rfl ?_
    refine AW.icmp_ge (tgt := 88) (pc' := 64) dX11_runs_61 (by first | assumption | omega | (constructor <;> omega) | (simp only [Int.toNat_natCast]; omega) | exact b2_in _) (by first | assumption | omega | (constructor <;> omega) | (simp only [Int.toNat_natCast]; omega) | exact b2_in _) (fun c61 => ?_) (fun c61 => ?_)
    · exact AW.weak (kk h1 rfl) (by (repeat' first | exact LSub.e | refine LSub.n ?_ | refine LSub.c ?_ ?_) <;> first | rfl | exact congrArg Sum.inl (by first | rfl | omega | omega) | exact congrArg (fun z : Int => (vL z : AV)) (by first | rfl | omega | omega))
    · omega
  | succ m ih =>
    intro k h1 hk e1 hP1 hP2 hs kk
    have w1 := e1 1 rfl
    have w6 := e1 6 rfl
    have w10 := e1 10 rfl
    have w49 := e1 49 rfl
    have wL := e1 (51 + a.toNat) (by simp; omega)
    have q49 : 0 ≤ h1 49 a.toNat ∧ h1 49 a.toNat ≤ 60 := by rw [w49]; exact ql
    refine AW.iload (pc' := 60) dX11_runs_58 rfl ?_
    refine AW.iload_n (pc' := 61) dX11_runs_60 rfl ?_
    refine AW.icmp_ge (tgt := 88) (pc' := 64) dX11_runs_61 (by first | assumption | omega | (constructor <;> omega) | (simp only [Int.toNat_natCast]; omega) | exact b2_in _) (by first | assumption | omega | (constructor <;> omega) | (simp only [Int.toNat_natCast]; omega) | exact b2_in _) (fun c61 => ?_) (fun c61 => ?_)
    · omega
    · refine AW.aload_n (pc' := 65) dX11_runs_64 rfl ?_
      refine AW.iload_n (pc' := 66) dX11_runs_65 rfl ?_
      refine AW.iload_n (pc' := 67) dX11_runs_66 rfl ?_
      refine AW.i2l (pc' := 68) dX11_runs_67 (by first | assumption | omega | (constructor <;> omega) | (simp only [Int.toNat_natCast]; omega) | exact b2_in _) ?_
      refine AW.ldc2 (v := 5) (pc' := 71) dX11_runs_68 klX11_119 ?_
      refine AW.iload (pc' := 73) dX11_runs_71 rfl ?_
      refine AW.i2l (pc' := 74) dX11_runs_73 (by first | assumption | omega | (constructor <;> omega) | (simp only [Int.toNat_natCast]; omega) | exact b2_in _) ?_
      refine AW.lmul (pc' := 75) dX11_runs_74 ?_
      refine AW.ladd (pc' := 76) dX11_runs_75 ?_
      refine AW.invQ2 (pc' := 79) dX11_runs_76 mlX11_121 mX11_runFromRow ly_0 rfl (c_X11_runFromRow (dep := dep - 1) (by omega) hs.1 hP1 hP2 qa q49 (by omega)) (fun h76 s76 => ?_)
      try simp only [Int.toNat_natCast, w1, w6, w10, w49, wL]
      refine AW.ifb_eq (tgt := 88) (pc' := 82) dX11_runs_79 (fun c79 => ?_) (fun c79 => ?_)
      · rcases s76 with ⟨s1, rfl⟩ | ⟨s1, s2⟩
        · have z : rnC (h 49 a.toNat) (h 1 4) (h 10 1) (h 6 3) (h (51 + a.toNat)) i (m + 1) k (h76 12 10) = k := by
            conv => lhs; unfold rnC
            rw [if_neg c79]
          rw [z] at kk
          exact AW.weak (kk h76 (Or.inl ⟨c79, rfl⟩)) (by (repeat' first | exact LSub.e | refine LSub.n ?_ | refine LSub.c ?_ ?_) <;> first | rfl | exact congrArg Sum.inl (by first | rfl | omega | omega) | exact congrArg (fun z : Int => (vL z : AV)) (by first | rfl | omega | omega))
        · rw [w1, w6, w10, w49, wL] at s1
          exact absurd s1 c79
      · refine AW.iinc4 (pc' := 85) dX11_runs_82 (by decide) rfl ?_
        refine AW.goto (tgt := 58) dX11_runs_85 ?_
        rcases s76 with ⟨s1, -⟩ | ⟨s1, s2⟩
        · rw [w1, w6, w10, w49, wL] at s1
          exact absurd c79 s1
        · rw [wL] at s2
          have n3 : h76 12 10 = h1 12 10 + 1 := by rw [s2.2.1 10]; simp [upR]
          have hp := PO.cp hs.1 s2 hP1 hP2
          have z : rnC (h 49 a.toNat) (h 1 4) (h 10 1) (h 6 3) (h (51 + a.toNat)) i (m + 1) k (h1 12 10) = rnC (h 49 a.toNat) (h 1 4) (h 10 1) (h 6 3) (h (51 + a.toNat)) i m (k + 1) (h76 12 10) := by
            conv => lhs; unfold rnC
            rw [if_pos c79, n3]
          rw [z] at kk
          have c79b := c79.2.2
          exact AW.weak (ih (k + 1) h76 (by omega) (e1.tr s2.1) hp.1 hp.2 (by omega) (fun x hx => kk x (Or.inr ⟨c79, h76, s2, hx⟩))) (by (repeat' first | exact LSub.e | refine LSub.n ?_ | refine LSub.c ?_ ?_) <;> first | rfl | exact congrArg Sum.inl (by first | rfl | omega | (push_cast; omega)) | exact congrArg (fun z : Int => (vL z : AV)) (by first | rfl | omega | (push_cast; omega)))
set_option maxRecDepth 100000 in
set_option maxHeartbeats 4000000 in
theorem c_X11_runs {K : KT} {dep : Nat} {h : Hp} {a i n : Int} (hd : 4 ≤ dep) (qs : 0 ≤ h 12 10 ∧ h 12 10 ≤ 120) (hQ1 : PO (h 12 10) (h 18)) (hQ2 : PO (h 12 10) (h 19)) (qp : PShe (h 47) (h 49)) (q4 : inI a) (q5 : inI i) (q6 : inI n) : AMp K yX11_runs cX11_runs 5 (some .int) dep [vR 0, vI a, vI i, vI n] h (some (vI (if ¬ ((0 ≤ a ∧ a < 6) ∧ 1 ≤ n ∧ n ≤ 12) then -1 else if h 47 a.toNat = 6 then 0 else if h 47 a.toNat ≠ 2 then -12 else rnC (h 49 a.toNat) (h 1 4) (h 10 1) (h 6 3) (h (51 + a.toNat)) i n.toNat 0 (h 12 10)))) (fun x => ((¬ ((0 ≤ a ∧ a < 6) ∧ 1 ≤ n ∧ n ≤ 12) ∨ h 47 a.toNat ≠ 2) ∧ x = h) ∨ (¬ (¬ ((0 ≤ a ∧ a < 6) ∧ 1 ≤ n ∧ n ≤ 12)) ∧ h 47 a.toNat = 2 ∧ rnX h a i n.toNat 0 h x)) := by
  refine AM.of (own := RX11) (ls := [some (vR 0), some (vI a), some (vI i), some (vI n), none]) rfl (by decide +kernel) (by exact Nat.le_of_ble_eq_true rfl) rfl (fun hO => ?_)
  refine AW.aload_n (pc' := 1) dX11_runs_0 rfl ?_
  refine AW.getR (pc' := 4) dX11_runs_1 ly_0 fX11_81 rfl ?_
  refine AW.iload_n (pc' := 5) dX11_runs_4 rfl ?_
  refine AW.invV1 (pc' := 8) dX11_runs_5 mlX11_111 mX8_has ly_46 rfl (c_X8_has (dep := dep - 1) (by first | assumption | omega | (constructor <;> omega) | (simp only [Int.toNat_natCast]; omega) | exact b2_in _)) ?_
  refine AW.ifb_eq (tgt := 21) (pc' := 11) dX11_runs_8 (fun c8 => ?_) (fun c8 => ?_)
  · refine AW.iconst (pc' := 22) dX11_runs_21 ?_
    refine AW.iret dX11_runs_22 ?_ ?_
    · refine congrArg (fun z : Int => (some (vI z) : Option AV)) ?_
      first | (rw [if_pos (by omega)]; done) | (rw [if_neg (by omega), if_pos (by omega)]; done) | (rw [if_neg (by omega), if_neg (by omega), if_pos (by omega)]; done) | (rw [if_neg (by omega), if_neg (by omega), if_neg (by omega)])
    · first | exact Or.inl ⟨by omega, rfl⟩ | exact Or.inr ⟨by omega, by omega, r2⟩
  · refine AW.iload_n (pc' := 12) dX11_runs_11 rfl ?_
    refine AW.iconst (pc' := 13) dX11_runs_12 ?_
    refine AW.bipush (pc' := 15) dX11_runs_13 (by decide) ?_
    refine AW.invS3 (pc' := 18) dX11_runs_15 mlX11_89 mX11_within (c_X11_within (dep := dep - 1) (by first | assumption | omega | (constructor <;> omega) | (simp only [Int.toNat_natCast]; omega) | exact b2_in _) (by first | assumption | omega | (constructor <;> omega) | (simp only [Int.toNat_natCast]; omega) | exact b2_in _) (by first | assumption | omega | (constructor <;> omega) | (simp only [Int.toNat_natCast]; omega) | exact b2_in _)) ?_
    refine AW.ifb_ne (tgt := 23) (pc' := 21) dX11_runs_18 (fun c18 => ?_) (fun c18 => ?_)
    · refine AW.aload_n (pc' := 24) dX11_runs_23 rfl ?_
      refine AW.getR (pc' := 27) dX11_runs_24 ly_0 fX11_81 rfl ?_
      refine AW.getR (pc' := 30) dX11_runs_27 ly_46 fX11_115 rfl ?_
      refine AW.iload_n (pc' := 31) dX11_runs_30 rfl ?_
      first | refine AW.ialdN (pc' := 32) dX11_runs_31 ly_47 (by first | assumption | omega | (constructor <;> omega) | (simp only [Int.toNat_natCast]; omega) | exact b2_in _) (by decide) (fun r31 => ?_) | refine AW.iald (pc' := 32) dX11_runs_31 ly_47 (by first | assumption | omega | (constructor <;> omega) | (simp only [Int.toNat_natCast]; omega) | exact b2_in _) (by first | assumption | omega | (constructor <;> omega) | (simp only [Int.toNat_natCast]; omega) | exact b2_in _) (by decide) (fun r31 => ?_)
      refine AW.bipush (pc' := 34) dX11_runs_32 (by decide) ?_
      refine AW.icmp_ne (tgt := 39) (pc' := 37) dX11_runs_34 (by first | assumption | omega | (constructor <;> omega) | (simp only [Int.toNat_natCast]; omega) | exact b2_in _) (by first | assumption | omega | (constructor <;> omega) | (simp only [Int.toNat_natCast]; omega) | exact b2_in _) (fun c34 => ?_) (fun c34 => ?_)
      · refine AW.aload_n (pc' := 40) dX11_runs_39 rfl ?_
        refine AW.getR (pc' := 43) dX11_runs_40 ly_0 fX11_81 rfl ?_
        refine AW.getR (pc' := 46) dX11_runs_43 ly_46 fX11_115 rfl ?_
        refine AW.iload_n (pc' := 47) dX11_runs_46 rfl ?_
        first | refine AW.ialdN (pc' := 48) dX11_runs_47 ly_47 (by first | assumption | omega | (constructor <;> omega) | (simp only [Int.toNat_natCast]; omega) | exact b2_in _) (by decide) (fun r47 => ?_) | refine AW.iald (pc' := 48) dX11_runs_47 ly_47 (by first | assumption | omega | (constructor <;> omega) | (simp only [Int.toNat_natCast]; omega) | exact b2_in _) (by first | assumption | omega | (constructor <;> omega) | (simp only [Int.toNat_natCast]; omega) | exact b2_in _) (by decide) (fun r47 => ?_)
        refine AW.iconst (pc' := 49) dX11_runs_48 ?_
        refine AW.icmp_eq (tgt := 55) (pc' := 52) dX11_runs_49 (by first | assumption | omega | (constructor <;> omega) | (simp only [Int.toNat_natCast]; omega) | exact b2_in _) (by first | assumption | omega | (constructor <;> omega) | (simp only [Int.toNat_natCast]; omega) | exact b2_in _) (fun c49 => ?_) (fun c49 => ?_)
        · refine AW.iconst (pc' := 56) dX11_runs_55 ?_
          refine AW.istore4 (pc' := 58) dX11_runs_56 (by decide) rfl ?_
          have ql := (qp a.toNat (by omega)).2.2
          refine AW.weak (lp_X11_runs (by omega) (i := i) (by omega) ql (n := n) (by omega) hd n.toNat 0 h (by omega) EX.rf hQ1 hQ2 qs (fun h2 r2 => ?_)) (by (repeat' first | exact LSub.e | refine LSub.n ?_ | refine LSub.c ?_ ?_) <;> first | rfl | exact congrArg Sum.inl (by first | rfl | omega | omega) | exact congrArg (fun z : Int => (vL z : AV)) (by first | rfl | omega | omega))
          refine AW.iload (pc' := 90) dX11_runs_88 rfl ?_
          refine AW.iret dX11_runs_90 ?_ ?_
          · refine congrArg (fun z : Int => (some (vI z) : Option AV)) ?_
            first | (rw [if_pos (by omega)]; done) | (rw [if_neg (by omega), if_pos (by omega)]; done) | (rw [if_neg (by omega), if_neg (by omega), if_pos (by omega)]; done) | (rw [if_neg (by omega), if_neg (by omega), if_neg (by omega)])
          · first | exact Or.inl ⟨by omega, rfl⟩ | exact Or.inr ⟨by omega, by omega, r2⟩
        · refine AW.bipush (pc' := 54) dX11_runs_52 (by decide) ?_
          refine AW.iret dX11_runs_54 ?_ ?_
          · refine congrArg (fun z : Int => (some (vI z) : Option AV)) ?_
            first | (rw [if_pos (by omega)]; done) | (rw [if_neg (by omega), if_pos (by omega)]; done) | (rw [if_neg (by omega), if_neg (by omega), if_pos (by omega)]; done) | (rw [if_neg (by omega), if_neg (by omega), if_neg (by omega)])
          · first | exact Or.inl ⟨by omega, rfl⟩ | exact Or.inr ⟨by omega, by omega, r2⟩
      · refine AW.iconst (pc' := 38) dX11_runs_37 ?_
        refine AW.iret dX11_runs_38 ?_ ?_
        · refine congrArg (fun z : Int => (some (vI z) : Option AV)) ?_
          first | (rw [if_pos (by omega)]; done) | (rw [if_neg (by omega), if_pos (by omega)]; done) | (rw [if_neg (by omega), if_neg (by omega), if_pos (by omega)]; done) | (rw [if_neg (by omega), if_neg (by omega), if_neg (by omega)])
        · first | exact Or.inl ⟨by omega, rfl⟩ | exact Or.inr ⟨by omega, by omega, r2⟩
    · refine AW.iconst (pc' := 22) dX11_runs_21 ?_
      refine AW.iret dX11_runs_22 ?_ ?_
      · refine congrArg (fun z : Int => (some (vI z) : Option AV)) ?_
        first | (rw [if_pos (by omega)]; done) | (rw [if_neg (by omega), if_pos (by omega)]; done) | (rw [if_neg (by omega), if_neg (by omega), if_pos (by omega)]; done) | (rw [if_neg (by omega), if_neg (by omega), if_neg (by omega)])
      · first | exact Or.inl ⟨by omega, rfl⟩ | exact Or.inr ⟨by omega, by omega, r2⟩
