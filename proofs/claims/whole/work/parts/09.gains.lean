/-! gains of a runner, shares, led: the reference, then the class -/
def rgS (ru : Nat → Int) (a : Int) (sh gv lv : Nat → Int) (k : Nat) (t : T4) : T4 := if ru k = a then seenT sh gv lv k t else t
def rgF (n : Int) (ru : Nat → Int) (a : Int) (sh gv lv : Nat → Int) : T4 := lp (rgS ru a sh gv lv) n.toNat 0 (0, 0, 0, 0)
theorem rgS_in {ru sh gv lv : Nat → Int} {a : Int} {k : Nat} {b : Int} {t : T4} (H : TI t b) (h1 : 5 ≤ lv k) (h2 : lv k ≤ 59998) : TI (rgS ru a sh gv lv k t) (b + 1) := by
  unfold rgS
  split
  · exact seenT_in H h1 h2
  · exact ⟨H.1, H.2.1, by have := H.2.2.1; omega, H.2.2.2⟩
theorem rgL_in {ru sh gv lv : Nat → Int} {a m : Int} (hl : ∀ k : Nat, (k : Int) < m → 5 ≤ lv k ∧ lv k ≤ 59998) : ∀ (n k : Nat) (t : T4), (k : Int) + n = m → TI t k → TI (lp (rgS ru a sh gv lv) n k t) m
  | 0, k, t, hk, H => by
    have e : m = k := by omega
    rw [e]
    exact H
  | n + 1, k, t, hk, H => by
    unfold lp
    exact rgL_in hl n (k + 1) _ (by omega) (rgS_in H (hl k (by omega)).1 (hl k (by omega)).2)
theorem TI.up {t : T4} {b c : Int} (H : TI t b) (hc : b ≤ c) : TI t c := ⟨H.1, H.2.1, by have := H.2.2.1; omega, H.2.2.2⟩
theorem TI0 {b : Int} (hb : 0 ≤ b) : TI (0, 0, 0, 0) b := ⟨by decide, by decide, by show (0 : Int) + 0 ≤ b; omega, by decide, by decide, by decide, by decide⟩
abbrev rsM (h : Hp) (a : Int) : Nat → T4 → T4 := rgS (h 66) a (h 70) (h 63) (lvM h)
abbrev rgM (h : Hp) (a : Int) : T4 := rgF (h 57 16) (h 66) a (h 70) (h 63) (lvM h)
theorem rgM_in {h : Hp} (hI : IMa h) (a : Int) : TI (rgM h a) 120 :=
  TI.up (rgL_in (ru := h 66) (a := a) (sh := h 70) (gv := h 63) (lv := lvM h) (m := h 57 16) (fun k hk => by have := lvl_in hI.2.2.2 hI.2.2.1 hk; exact ⟨this.2.2.1, this.2.2.2⟩) (h 57 16).toNat 0 (0, 0, 0, 0) (by have := hI.2.2.2.1; omega) (TI0 (by decide))) hI.2.2.2.2.1
set_option maxRecDepth 100000 in
set_option maxHeartbeats 4000000 in
theorem lp_X12_gainsOf {K : KT} {X : XT} {dep : Nat} {h : Hp} {a : Int} (hI : IMa h) (qa : inI a) (hd : 1 ≤ dep) : ∀ (n k : Nat) (s : T4), (k : Int) + n = h 57 16 → TI s ((k : Nat) : Int) → AW K X RX12 cX12_gainsOf 7 (some .int) dep 86 [some (vR 57), some (vI (a)), some (vI ((lp (rsM h a) n k s).1)), some (vI ((lp (rsM h a) n k s).2.2.1)), some (vI ((lp (rsM h a) n k s).2.1)), some (vI ((lp (rsM h a) n k s).2.2.2)), none] [] h → AW K X RX12 cX12_gainsOf 7 (some .int) dep 13 [some (vR 57), some (vI (a)), some (vI (s.1)), some (vI (s.2.2.1)), some (vI (s.2.1)), some (vI (s.2.2.2)), some (vI ((k : Int)))] [] h := by
  have g6 := hI.2.2.2.1
  have g7 := hI.2.2.2.2.1
  have g8 := hI.2.1.2.1
  intro n
  induction n with
  | zero =>
    intro k s hk i0 kk
    refine AW.iload (pc' := 15) dX12_gainsOf_13 rfl ?_
    refine AW.aload_n (pc' := 16) dX12_gainsOf_15 rfl ?_
    refine AW.getI (pc' := 19) dX12_gainsOf_16 ly_57 fX12_128 rfl (fun r16 => ?_)
    refine AW.icmp_ge (tgt := 86) (pc' := 22) dX12_gainsOf_19 (by first | assumption | omega | (constructor <;> omega) | (simp only [Int.toNat_natCast]; omega) | exact b2_in _) (by first | assumption | omega | (constructor <;> omega) | (simp only [Int.toNat_natCast]; omega) | exact b2_in _) (fun c19 => ?_) (fun c19 => ?_)
    · exact AW.weak kk (by (repeat' first | exact LSub.e | refine LSub.n ?_ | refine LSub.c ?_ ?_) <;> first | rfl | exact congrArg Sum.inl (by first | rfl | omega | omega))
    · omega
  | succ n ih =>
    intro k s hk i0 kk
    have hkr : ((k : Nat) : Int) < h 57 16 := by omega
    have lv1 := lvl_in hI.2.2.2 hI.2.2.1 hkr
    have g5 := hI.2.2.2.2.2 k hkr
    refine AW.iload (pc' := 15) dX12_gainsOf_13 rfl ?_
    refine AW.aload_n (pc' := 16) dX12_gainsOf_15 rfl ?_
    refine AW.getI (pc' := 19) dX12_gainsOf_16 ly_57 fX12_128 rfl (fun r16 => ?_)
    refine AW.icmp_ge (tgt := 86) (pc' := 22) dX12_gainsOf_19 (by first | assumption | omega | (constructor <;> omega) | (simp only [Int.toNat_natCast]; omega) | exact b2_in _) (by first | assumption | omega | (constructor <;> omega) | (simp only [Int.toNat_natCast]; omega) | exact b2_in _) (fun c19 => ?_) (fun c19 => ?_)
    · omega
    · refine AW.aload_n (pc' := 23) dX12_gainsOf_22 rfl ?_
      refine AW.getR (pc' := 26) dX12_gainsOf_23 ly_57 fX12_34 rfl ?_
      refine AW.iload (pc' := 28) dX12_gainsOf_26 rfl ?_
      first | refine AW.ialdN (pc' := 29) dX12_gainsOf_28 ly_66 (by first | assumption | omega | (constructor <;> omega) | (simp only [Int.toNat_natCast]; omega) | exact b2_in _) (by decide) (fun r28 => ?_) | refine AW.iald (pc' := 29) dX12_gainsOf_28 ly_66 (by first | assumption | omega | (constructor <;> omega) | (simp only [Int.toNat_natCast]; omega) | exact b2_in _) (by first | assumption | omega | (constructor <;> omega) | (simp only [Int.toNat_natCast]; omega) | exact b2_in _) (by decide) (fun r28 => ?_)
      refine AW.iload_n (pc' := 30) dX12_gainsOf_29 rfl ?_
      refine AW.icmp_eq (tgt := 36) (pc' := 33) dX12_gainsOf_30 (by first | assumption | omega | (constructor <;> omega) | (simp only [Int.toNat_natCast]; omega) | exact b2_in _) (by first | assumption | omega | (constructor <;> omega) | (simp only [Int.toNat_natCast]; omega) | exact b2_in _) (fun c30 => ?_) (fun c30 => ?_)
      · refine AW.aload_n (pc' := 37) dX12_gainsOf_36 rfl ?_
        refine AW.iload (pc' := 39) dX12_gainsOf_37 rfl ?_
        refine AW.invV1 (pc' := 42) dX12_gainsOf_39 mlX12_295 mX12_isOld ly_57 rfl (c_X12_isOld (dep := dep - 1) (by first | assumption | omega | (constructor <;> omega) | (simp only [Int.toNat_natCast]; omega) | exact b2_in _) (by first | assumption | omega | (constructor <;> omega) | (simp only [Int.toNat_natCast]; omega) | exact b2_in _)) ?_
        try simp only [Int.toNat_natCast]
        refine AW.ifb_eq (tgt := 57) (pc' := 45) dX12_gainsOf_42 (fun c42 => ?_) (fun c42 => ?_)
        · refine AW.aload_n (pc' := 58) dX12_gainsOf_57 rfl ?_
          refine AW.iload (pc' := 60) dX12_gainsOf_58 rfl ?_
          refine AW.invV1 (pc' := 63) dX12_gainsOf_60 mlX12_256 mX12_isNew ly_57 rfl (c_X12_isNew (dep := dep - 1) (by first | assumption | omega | (constructor <;> omega) | (simp only [Int.toNat_natCast]; omega) | exact b2_in _) (by first | assumption | omega | (constructor <;> omega) | (simp only [Int.toNat_natCast]; omega) | exact b2_in _)) ?_
          try simp only [Int.toNat_natCast]
          refine AW.ifb_eq (tgt := 80) (pc' := 66) dX12_gainsOf_63 (fun c63 => ?_) (fun c63 => ?_)
          · refine AW.iinc6 (pc' := 83) dX12_gainsOf_80 (by decide) rfl ?_
            refine AW.goto (tgt := 13) dX12_gainsOf_83 ?_
            exact AW.weak (ih (k + 1) ((rsM h a) k s) (by omega) (by first | omega | (exact rgS_in i0 lv1.2.2.1 lv1.2.2.2)) kk) (by (repeat' first | exact LSub.e | refine LSub.n ?_ | refine LSub.c ?_ ?_) <;> first | rfl | exact congrArg Sum.inl (by first | rfl | omega | (simp only [rsM, lvM]; unfold rgS seenT addT; (repeat' split) <;> (try simp only) <;> omega)))
          · refine AW.iload (pc' := 68) dX12_gainsOf_66 rfl ?_
            refine AW.aload_n (pc' := 69) dX12_gainsOf_68 rfl ?_
            refine AW.iload (pc' := 71) dX12_gainsOf_69 rfl ?_
            refine AW.invV1 (pc' := 74) dX12_gainsOf_71 mlX12_157 mX12_level ly_57 rfl (c_X12_level (dep := dep - 1) (by first | assumption | omega | (constructor <;> omega) | (simp only [Int.toNat_natCast]; omega) | exact b2_in _) (by first | assumption | omega | (constructor <;> omega) | (simp only [Int.toNat_natCast]; omega) | exact b2_in _)) ?_
            try simp only [Int.toNat_natCast]
            refine AW.iadd (pc' := 75) dX12_gainsOf_74 ?_
            refine AW.istore4 (pc' := 77) dX12_gainsOf_75 (by decide) rfl ?_
            refine AW.iinc5 (pc' := 80) dX12_gainsOf_77 (by decide) rfl ?_
            refine AW.iinc6 (pc' := 83) dX12_gainsOf_80 (by decide) rfl ?_
            refine AW.goto (tgt := 13) dX12_gainsOf_83 ?_
            exact AW.weak (ih (k + 1) ((rsM h a) k s) (by omega) (by first | omega | (exact rgS_in i0 lv1.2.2.1 lv1.2.2.2)) kk) (by (repeat' first | exact LSub.e | refine LSub.n ?_ | refine LSub.c ?_ ?_) <;> first | rfl | exact congrArg Sum.inl (by first | rfl | omega | (simp only [rsM, lvM]; unfold rgS seenT addT; (repeat' split) <;> (try simp only) <;> omega)))
        · refine AW.iload_n (pc' := 46) dX12_gainsOf_45 rfl ?_
          refine AW.aload_n (pc' := 47) dX12_gainsOf_46 rfl ?_
          refine AW.iload (pc' := 49) dX12_gainsOf_47 rfl ?_
          refine AW.invV1 (pc' := 52) dX12_gainsOf_49 mlX12_157 mX12_level ly_57 rfl (c_X12_level (dep := dep - 1) (by first | assumption | omega | (constructor <;> omega) | (simp only [Int.toNat_natCast]; omega) | exact b2_in _) (by first | assumption | omega | (constructor <;> omega) | (simp only [Int.toNat_natCast]; omega) | exact b2_in _)) ?_
          try simp only [Int.toNat_natCast]
          refine AW.iadd (pc' := 53) dX12_gainsOf_52 ?_
          refine AW.istore2n (pc' := 54) dX12_gainsOf_53 (by decide) rfl ?_
          refine AW.iinc3 (pc' := 57) dX12_gainsOf_54 (by decide) rfl ?_
          refine AW.aload_n (pc' := 58) dX12_gainsOf_57 rfl ?_
          refine AW.iload (pc' := 60) dX12_gainsOf_58 rfl ?_
          refine AW.invV1 (pc' := 63) dX12_gainsOf_60 mlX12_256 mX12_isNew ly_57 rfl (c_X12_isNew (dep := dep - 1) (by first | assumption | omega | (constructor <;> omega) | (simp only [Int.toNat_natCast]; omega) | exact b2_in _) (by first | assumption | omega | (constructor <;> omega) | (simp only [Int.toNat_natCast]; omega) | exact b2_in _)) ?_
          try simp only [Int.toNat_natCast]
          refine AW.ifb_eq (tgt := 80) (pc' := 66) dX12_gainsOf_63 (fun c63 => ?_) (fun c63 => ?_)
          · refine AW.iinc6 (pc' := 83) dX12_gainsOf_80 (by decide) rfl ?_
            refine AW.goto (tgt := 13) dX12_gainsOf_83 ?_
            exact AW.weak (ih (k + 1) ((rsM h a) k s) (by omega) (by first | omega | (exact rgS_in i0 lv1.2.2.1 lv1.2.2.2)) kk) (by (repeat' first | exact LSub.e | refine LSub.n ?_ | refine LSub.c ?_ ?_) <;> first | rfl | exact congrArg Sum.inl (by first | rfl | omega | (simp only [rsM, lvM]; unfold rgS seenT addT; (repeat' split) <;> (try simp only) <;> omega)))
          · refine AW.iload (pc' := 68) dX12_gainsOf_66 rfl ?_
            refine AW.aload_n (pc' := 69) dX12_gainsOf_68 rfl ?_
            refine AW.iload (pc' := 71) dX12_gainsOf_69 rfl ?_
            refine AW.invV1 (pc' := 74) dX12_gainsOf_71 mlX12_157 mX12_level ly_57 rfl (c_X12_level (dep := dep - 1) (by first | assumption | omega | (constructor <;> omega) | (simp only [Int.toNat_natCast]; omega) | exact b2_in _) (by first | assumption | omega | (constructor <;> omega) | (simp only [Int.toNat_natCast]; omega) | exact b2_in _)) ?_
            try simp only [Int.toNat_natCast]
            refine AW.iadd (pc' := 75) dX12_gainsOf_74 ?_
            refine AW.istore4 (pc' := 77) dX12_gainsOf_75 (by decide) rfl ?_
            refine AW.iinc5 (pc' := 80) dX12_gainsOf_77 (by decide) rfl ?_
            refine AW.iinc6 (pc' := 83) dX12_gainsOf_80 (by decide) rfl ?_
            refine AW.goto (tgt := 13) dX12_gainsOf_83 ?_
            exact AW.weak (ih (k + 1) ((rsM h a) k s) (by omega) (by first | omega | (exact rgS_in i0 lv1.2.2.1 lv1.2.2.2)) kk) (by (repeat' first | exact LSub.e | refine LSub.n ?_ | refine LSub.c ?_ ?_) <;> first | rfl | exact congrArg Sum.inl (by first | rfl | omega | (simp only [rsM, lvM]; unfold rgS seenT addT; (repeat' split) <;> (try simp only) <;> omega)))
      · refine AW.goto (tgt := 80) dX12_gainsOf_33 ?_
        refine AW.iinc6 (pc' := 83) dX12_gainsOf_80 (by decide) rfl ?_
        refine AW.goto (tgt := 13) dX12_gainsOf_83 ?_
        exact AW.weak (ih (k + 1) ((rsM h a) k s) (by omega) (by first | omega | (exact rgS_in i0 lv1.2.2.1 lv1.2.2.2)) kk) (by (repeat' first | exact LSub.e | refine LSub.n ?_ | refine LSub.c ?_ ?_) <;> first | rfl | exact congrArg Sum.inl (by first | rfl | omega | (simp only [rsM, lvM]; unfold rgS seenT addT; (repeat' split) <;> (try simp only) <;> omega)))
set_option maxRecDepth 100000 in
set_option maxHeartbeats 4000000 in
theorem c_X12_gainsOf {K : KT} {dep : Nat} {h : Hp} {a : Int} (hd : 1 ≤ dep) (hI : IMa h) (q1 : inI a) : AM K yX12_gainsOf cX12_gainsOf 7 (some .int) dep [vR 57, vI a] h (some (vI (tgain (rgM h a)))) (h) := by
  refine AM.of (own := RX12) (ls := [some (vR 57), some (vI a), none, none, none, none, none]) rfl (by decide +kernel) (by exact Nat.le_of_ble_eq_true rfl) rfl (fun hO => ?_)
  have g6 := hI.2.2.2.1
  have g7 := hI.2.2.2.2.1
  have g8 := hI.2.1.2.1
  have rg := rgM_in hI a
  have ti := rg
  obtain ⟨a1, a2, a3, a4, a5, a6, a7⟩ := rg
  refine AW.iconst (pc' := 1) dX12_gainsOf_0 ?_
  refine AW.istore2n (pc' := 2) dX12_gainsOf_1 (by decide) rfl ?_
  refine AW.iconst (pc' := 3) dX12_gainsOf_2 ?_
  refine AW.istore3n (pc' := 4) dX12_gainsOf_3 (by decide) rfl ?_
  refine AW.iconst (pc' := 5) dX12_gainsOf_4 ?_
  refine AW.istore4 (pc' := 7) dX12_gainsOf_5 (by decide) rfl ?_
  refine AW.iconst (pc' := 8) dX12_gainsOf_7 ?_
  refine AW.istore5 (pc' := 10) dX12_gainsOf_8 (by decide) rfl ?_
  refine AW.iconst (pc' := 11) dX12_gainsOf_10 ?_
  refine AW.istore6 (pc' := 13) dX12_gainsOf_11 (by decide) rfl ?_
  refine AW.weak (lp_X12_gainsOf hI (a := a) (by first | assumption | omega | (constructor <;> omega) | (simp only [Int.toNat_natCast]; omega) | exact b2_in _) hd (h 57 16).toNat 0 (0, 0, 0, 0) (by omega) (TI0 (by decide)) ?_) (by (repeat' first | exact LSub.e | refine LSub.n ?_ | refine LSub.c ?_ ?_) <;> first | rfl | exact congrArg Sum.inl (by first | rfl | omega | omega))
  have zz : lp (rsM h a) (h 57 16).toNat 0 (0, 0, 0, 0) = rgM h a := rfl
  rw [zz]
  refine AW.iload_n (pc' := 87) dX12_gainsOf_86 rfl ?_
  refine AW.if_eq (tgt := 95) (pc' := 90) dX12_gainsOf_87 (by first | assumption | omega | (constructor <;> omega) | (simp only [Int.toNat_natCast]; omega) | exact b2_in _) (fun c87 => ?_) (fun c87 => ?_)
  · refine AW.ldc (v := -2000000000) (pc' := 97) dX12_gainsOf_95 kX12_156 ?_
    refine AW.goto (tgt := 109) dX12_gainsOf_97 ?_
    refine AW.iret dX12_gainsOf_109 ?_ ?_
    · refine congrArg (fun z : Int => (some (vI z) : Option AV)) ?_
      unfold tgain
      first | (rw [if_pos (by omega)]) | (rw [if_neg (by omega)])
    · rfl
  · refine AW.iload (pc' := 92) dX12_gainsOf_90 rfl ?_
    refine AW.if_ne (tgt := 100) (pc' := 95) dX12_gainsOf_92 (by first | assumption | omega | (constructor <;> omega) | (simp only [Int.toNat_natCast]; omega) | exact b2_in _) (fun c92 => ?_) (fun c92 => ?_)
    · refine AW.iload_n (pc' := 101) dX12_gainsOf_100 rfl ?_
      refine AW.iload_n (pc' := 102) dX12_gainsOf_101 rfl ?_
      refine AW.iload (pc' := 104) dX12_gainsOf_102 rfl ?_
      refine AW.iload (pc' := 106) dX12_gainsOf_104 rfl ?_
      refine AW.invS4 (pc' := 109) dX12_gainsOf_106 mlX12_302 mX12_besideOf (c_X12_besideOf (dep := dep - 1) (by first | assumption | omega | (constructor <;> omega) | (simp only [Int.toNat_natCast]; omega) | exact b2_in _) (by first | assumption | omega | (constructor <;> omega) | (simp only [Int.toNat_natCast]; omega) | exact b2_in _) (by first | assumption | omega | (constructor <;> omega) | (simp only [Int.toNat_natCast]; omega) | exact b2_in _) (by first | assumption | omega | (constructor <;> omega) | (simp only [Int.toNat_natCast]; omega) | exact b2_in _)) ?_
      refine AW.iret dX12_gainsOf_109 ?_ ?_
      · refine congrArg (fun z : Int => (some (vI z) : Option AV)) ?_
        unfold tgain
        first | (rw [if_pos (by omega)]) | (rw [if_neg (by omega)])
      · rfl
    · refine AW.ldc (v := -2000000000) (pc' := 97) dX12_gainsOf_95 kX12_156 ?_
      refine AW.goto (tgt := 109) dX12_gainsOf_97 ?_
      refine AW.iret dX12_gainsOf_109 ?_ ?_
      · refine congrArg (fun z : Int => (some (vI z) : Option AV)) ?_
        unfold tgain
        first | (rw [if_pos (by omega)]) | (rw [if_neg (by omega)])
      · rfl
set_option maxRecDepth 100000 in
set_option maxHeartbeats 4000000 in
theorem c_X12_person {K : KT} {dep : Nat} {h : Hp} {a : Int} (hd : 2 ≤ dep) (hI : IMa h) (q1 : inI a) : AM K yX12_person cX12_person 2 (some .int) dep [vR 57, vI a] h (some (vI (if 0 ≤ a ∧ a < h 57 13 then tgain (rgM h a) else -2000000000))) (h) := by
  refine AM.of (own := RX12) (ls := [some (vR 57), some (vI a)]) rfl (by decide +kernel) (by exact Nat.le_of_ble_eq_true rfl) rfl (fun hO => ?_)
  have g6 := hI.2.2.2.1
  have g7 := hI.2.2.2.2.1
  have g8 := hI.2.1.2.1
  refine AW.aload_n (pc' := 1) dX12_person_0 rfl ?_
  refine AW.iload_n (pc' := 2) dX12_person_1 rfl ?_
  refine AW.invV1 (pc' := 5) dX12_person_2 mlX12_131 mX12_isRunner ly_57 rfl (c_X12_isRunner (dep := dep - 1) (by first | assumption | omega | (constructor <;> omega) | (simp only [Int.toNat_natCast]; omega) | exact b2_in _)) ?_
  refine AW.ifb_eq (tgt := 16) (pc' := 8) dX12_person_5 (fun c5 => ?_) (fun c5 => ?_)
  · refine AW.ldc (v := -2000000000) (pc' := 18) dX12_person_16 kX12_156 ?_
    refine AW.iret dX12_person_18 ?_ ?_
    all_goals first | rfl | exact congrArg (fun z : Int => (some (vI z) : Option AV)) (b2_t (by omega)) | exact congrArg (fun z : Int => (some (vI z) : Option AV)) (b2_f (by omega)) | ((repeat' split) <;> first | rfl | omega)
  · refine AW.aload_n (pc' := 9) dX12_person_8 rfl ?_
    refine AW.iload_n (pc' := 10) dX12_person_9 rfl ?_
    refine AW.invV1 (pc' := 13) dX12_person_10 mlX12_319 mX12_gainsOf ly_57 rfl (c_X12_gainsOf (dep := dep - 1) (by first | assumption | omega | (constructor <;> omega) | (simp only [Int.toNat_natCast]; omega) | exact b2_in _) (by first | assumption | omega | (constructor <;> omega) | (simp only [Int.toNat_natCast]; omega) | exact b2_in _) (by first | assumption | omega | (constructor <;> omega) | (simp only [Int.toNat_natCast]; omega) | exact b2_in _)) ?_
    refine AW.goto (tgt := 18) dX12_person_13 ?_
    refine AW.iret dX12_person_18 ?_ ?_
    all_goals first | rfl | exact congrArg (fun z : Int => (some (vI z) : Option AV)) (b2_t (by omega)) | exact congrArg (fun z : Int => (some (vI z) : Option AV)) (b2_f (by omega)) | ((repeat' split) <;> first | rfl | omega)
/-- does a gain count -/
abbrev shareP (g v w : Int) : Prop := w = 2 ∨ w = 0 ∧ v ≤ g ∨ w = 1 ∧ g ≤ 0
def shareS (sx : Nat → Int) (gf : Nat → Int) (x v w : Int) (k : Nat) (acc : Int) : Int := if gf k ≠ -2000000000 ∧ (x = 2 ∨ sx k = x) ∧ shareP (gf k) v w then acc + 1 else acc
def shareF (n : Int) (sx gf : Nat → Int) (x v w : Int) : Int := lp (shareS sx gf x v w) n.toNat 0 0
def ledS (gf : Nat → Int) (k : Nat) (acc : Int) : Int := if gf k ≠ -2000000000 ∧ (acc < 0 ∨ gf acc.toNat < gf k) then (k : Int) else acc
def ledF (n : Int) (gf : Nat → Int) : Int := lp (ledS gf) n.toNat 0 (-2)
abbrev gfM (h : Hp) (k : Nat) : Int := tgain (rgM h k)
set_option maxRecDepth 100000 in
set_option maxHeartbeats 4000000 in
theorem lp_X12_shares {K : KT} {X : XT} {dep : Nat} {h : Hp} {a v w : Int} (hI : IMa h) (qa : 0 ≤ a ∧ a ≤ 2) (qw : 0 ≤ w ∧ w ≤ 2) (qv : inI v) (hd : 2 ≤ dep) : ∀ (n k : Nat) (acc : Int), (k : Int) + n = h 57 13 → 0 ≤ acc → acc ≤ k → AW K X RX12 cX12_shares 7 (some .int) dep 110 [some (vR 57), some (vI (a)), some (vI (v)), some (vI (w)), some (vI ((lp (shareS (h 61) (gfM h) a v w) n k acc))), none, none] [] h → AW K X RX12 cX12_shares 7 (some .int) dep 26 [some (vR 57), some (vI (a)), some (vI (v)), some (vI (w)), some (vI (acc)), some (vI ((k : Int))), none] [] h := by
  have g6 := hI.1.1
  have g7 := hI.1.2.1
  intro n
  induction n with
  | zero =>
    intro k acc hk i0 i1 kk
    refine AW.iload (pc' := 28) dX12_shares_26 rfl ?_
    refine AW.aload_n (pc' := 29) dX12_shares_28 rfl ?_
    refine AW.getI (pc' := 32) dX12_shares_29 ly_57 fX12_122 rfl (fun r29 => ?_)
    refine AW.icmp_ge (tgt := 110) (pc' := 35) dX12_shares_32 (by first | assumption | omega | (constructor <;> omega) | (simp only [Int.toNat_natCast]; omega) | exact b2_in _) (by first | assumption | omega | (constructor <;> omega) | (simp only [Int.toNat_natCast]; omega) | exact b2_in _) (fun c32 => ?_) (fun c32 => ?_)
    · exact AW.weak kk (by (repeat' first | exact LSub.e | refine LSub.n ?_ | refine LSub.c ?_ ?_) <;> first | rfl | exact congrArg Sum.inl (by first | rfl | omega | omega))
    · omega
  | succ n ih =>
    intro k acc hk i0 i1 kk
    have hkr : ((k : Nat) : Int) < h 57 13 := by omega
    have tg1 := tgain_in (rgM_in hI ((k : Nat) : Int))
    refine AW.iload (pc' := 28) dX12_shares_26 rfl ?_
    refine AW.aload_n (pc' := 29) dX12_shares_28 rfl ?_
    refine AW.getI (pc' := 32) dX12_shares_29 ly_57 fX12_122 rfl (fun r29 => ?_)
    refine AW.icmp_ge (tgt := 110) (pc' := 35) dX12_shares_32 (by first | assumption | omega | (constructor <;> omega) | (simp only [Int.toNat_natCast]; omega) | exact b2_in _) (by first | assumption | omega | (constructor <;> omega) | (simp only [Int.toNat_natCast]; omega) | exact b2_in _) (fun c32 => ?_) (fun c32 => ?_)
    · omega
    · refine AW.aload_n (pc' := 36) dX12_shares_35 rfl ?_
      refine AW.iload (pc' := 38) dX12_shares_36 rfl ?_
      refine AW.invV1 (pc' := 41) dX12_shares_38 mlX12_319 mX12_gainsOf ly_57 rfl (c_X12_gainsOf (dep := dep - 1) (by first | assumption | omega | (constructor <;> omega) | (simp only [Int.toNat_natCast]; omega) | exact b2_in _) (by first | assumption | omega | (constructor <;> omega) | (simp only [Int.toNat_natCast]; omega) | exact b2_in _) (by first | assumption | omega | (constructor <;> omega) | (simp only [Int.toNat_natCast]; omega) | exact b2_in _)) ?_
      try simp only [Int.toNat_natCast]
      refine AW.istore6 (pc' := 43) dX12_shares_41 (by decide) rfl ?_
      refine AW.iload (pc' := 45) dX12_shares_43 rfl ?_
      refine AW.ldc (v := -2000000000) (pc' := 47) dX12_shares_45 kX12_156 ?_
      refine AW.icmp_eq (tgt := 104) (pc' := 50) dX12_shares_47 (by first | assumption | omega | (constructor <;> omega) | (simp only [Int.toNat_natCast]; omega) | exact b2_in _) (by first | assumption | omega | (constructor <;> omega) | (simp only [Int.toNat_natCast]; omega) | exact b2_in _) (fun c47 => ?_) (fun c47 => ?_)
      · refine AW.iinc5 (pc' := 107) dX12_shares_104 (by decide) rfl ?_
        refine AW.goto (tgt := 26) dX12_shares_107 ?_
        exact AW.weak (ih (k + 1) ((shareS (h 61) (gfM h) a v w) k acc) (by omega) (by first | omega | ((unfold shareS; split <;> omega))) (by first | omega | ((unfold shareS; split <;> omega))) kk) (by (repeat' first | exact LSub.e | refine LSub.n ?_ | refine LSub.c ?_ ?_) <;> first | rfl | exact congrArg Sum.inl (by first | rfl | omega | (unfold shareS; (try simp only [shareP, gfM]); (repeat' split) <;> omega)))
      · refine AW.iload_n (pc' := 51) dX12_shares_50 rfl ?_
        refine AW.iconst (pc' := 52) dX12_shares_51 ?_
        refine AW.icmp_ge (tgt := 69) (pc' := 55) dX12_shares_52 (by first | assumption | omega | (constructor <;> omega) | (simp only [Int.toNat_natCast]; omega) | exact b2_in _) (by first | assumption | omega | (constructor <;> omega) | (simp only [Int.toNat_natCast]; omega) | exact b2_in _) (fun c52 => ?_) (fun c52 => ?_)
        · refine AW.iload (pc' := 71) dX12_shares_69 rfl ?_
          refine AW.iload_n (pc' := 72) dX12_shares_71 rfl ?_
          refine AW.iconst (pc' := 73) dX12_shares_72 ?_
          refine AW.icmp_eq (tgt := 96) (pc' := 76) dX12_shares_73 (by first | assumption | omega | (constructor <;> omega) | (simp only [Int.toNat_natCast]; omega) | exact b2_in _) (by first | assumption | omega | (constructor <;> omega) | (simp only [Int.toNat_natCast]; omega) | exact b2_in _) (fun c73 => ?_) (fun c73 => ?_)
          · refine AW.iconst (pc' := 97) dX12_shares_96 ?_
            refine AW.goto (tgt := 101) dX12_shares_97 ?_
            refine AW.iadd (pc' := 102) dX12_shares_101 ?_
            refine AW.istore4 (pc' := 104) dX12_shares_102 (by decide) rfl ?_
            refine AW.iinc5 (pc' := 107) dX12_shares_104 (by decide) rfl ?_
            refine AW.goto (tgt := 26) dX12_shares_107 ?_
            exact AW.weak (ih (k + 1) ((shareS (h 61) (gfM h) a v w) k acc) (by omega) (by first | omega | ((unfold shareS; split <;> omega))) (by first | omega | ((unfold shareS; split <;> omega))) kk) (by (repeat' first | exact LSub.e | refine LSub.n ?_ | refine LSub.c ?_ ?_) <;> first | rfl | exact congrArg Sum.inl (by first | rfl | omega | (unfold shareS; (try simp only [shareP, gfM]); (repeat' split) <;> omega)))
          · refine AW.iload_n (pc' := 77) dX12_shares_76 rfl ?_
            refine AW.if_ne (tgt := 86) (pc' := 80) dX12_shares_77 (by first | assumption | omega | (constructor <;> omega) | (simp only [Int.toNat_natCast]; omega) | exact b2_in _) (fun c77 => ?_) (fun c77 => ?_)
            · refine AW.iload_n (pc' := 87) dX12_shares_86 rfl ?_
              refine AW.iconst (pc' := 88) dX12_shares_87 ?_
              refine AW.icmp_ne (tgt := 100) (pc' := 91) dX12_shares_88 (by first | assumption | omega | (constructor <;> omega) | (simp only [Int.toNat_natCast]; omega) | exact b2_in _) (by first | assumption | omega | (constructor <;> omega) | (simp only [Int.toNat_natCast]; omega) | exact b2_in _) (fun c88 => ?_) (fun c88 => ?_)
              · refine AW.iconst (pc' := 101) dX12_shares_100 ?_
                refine AW.iadd (pc' := 102) dX12_shares_101 ?_
                refine AW.istore4 (pc' := 104) dX12_shares_102 (by decide) rfl ?_
                refine AW.iinc5 (pc' := 107) dX12_shares_104 (by decide) rfl ?_
                refine AW.goto (tgt := 26) dX12_shares_107 ?_
                exact AW.weak (ih (k + 1) ((shareS (h 61) (gfM h) a v w) k acc) (by omega) (by first | omega | ((unfold shareS; split <;> omega))) (by first | omega | ((unfold shareS; split <;> omega))) kk) (by (repeat' first | exact LSub.e | refine LSub.n ?_ | refine LSub.c ?_ ?_) <;> first | rfl | exact congrArg Sum.inl (by first | rfl | omega | (unfold shareS; (try simp only [shareP, gfM]); (repeat' split) <;> omega)))
              · refine AW.iload (pc' := 93) dX12_shares_91 rfl ?_
                refine AW.if_gt (tgt := 100) (pc' := 96) dX12_shares_93 (by first | assumption | omega | (constructor <;> omega) | (simp only [Int.toNat_natCast]; omega) | exact b2_in _) (fun c93 => ?_) (fun c93 => ?_)
                · refine AW.iconst (pc' := 101) dX12_shares_100 ?_
                  refine AW.iadd (pc' := 102) dX12_shares_101 ?_
                  refine AW.istore4 (pc' := 104) dX12_shares_102 (by decide) rfl ?_
                  refine AW.iinc5 (pc' := 107) dX12_shares_104 (by decide) rfl ?_
                  refine AW.goto (tgt := 26) dX12_shares_107 ?_
                  exact AW.weak (ih (k + 1) ((shareS (h 61) (gfM h) a v w) k acc) (by omega) (by first | omega | ((unfold shareS; split <;> omega))) (by first | omega | ((unfold shareS; split <;> omega))) kk) (by (repeat' first | exact LSub.e | refine LSub.n ?_ | refine LSub.c ?_ ?_) <;> first | rfl | exact congrArg Sum.inl (by first | rfl | omega | (unfold shareS; (try simp only [shareP, gfM]); (repeat' split) <;> omega)))
                · refine AW.iconst (pc' := 97) dX12_shares_96 ?_
                  refine AW.goto (tgt := 101) dX12_shares_97 ?_
                  refine AW.iadd (pc' := 102) dX12_shares_101 ?_
                  refine AW.istore4 (pc' := 104) dX12_shares_102 (by decide) rfl ?_
                  refine AW.iinc5 (pc' := 107) dX12_shares_104 (by decide) rfl ?_
                  refine AW.goto (tgt := 26) dX12_shares_107 ?_
                  exact AW.weak (ih (k + 1) ((shareS (h 61) (gfM h) a v w) k acc) (by omega) (by first | omega | ((unfold shareS; split <;> omega))) (by first | omega | ((unfold shareS; split <;> omega))) kk) (by (repeat' first | exact LSub.e | refine LSub.n ?_ | refine LSub.c ?_ ?_) <;> first | rfl | exact congrArg Sum.inl (by first | rfl | omega | (unfold shareS; (try simp only [shareP, gfM]); (repeat' split) <;> omega)))
            · refine AW.iload (pc' := 82) dX12_shares_80 rfl ?_
              refine AW.iload_n (pc' := 83) dX12_shares_82 rfl ?_
              refine AW.icmp_ge (tgt := 96) (pc' := 86) dX12_shares_83 (by first | assumption | omega | (constructor <;> omega) | (simp only [Int.toNat_natCast]; omega) | exact b2_in _) (by first | assumption | omega | (constructor <;> omega) | (simp only [Int.toNat_natCast]; omega) | exact b2_in _) (fun c83 => ?_) (fun c83 => ?_)
              · refine AW.iconst (pc' := 97) dX12_shares_96 ?_
                refine AW.goto (tgt := 101) dX12_shares_97 ?_
                refine AW.iadd (pc' := 102) dX12_shares_101 ?_
                refine AW.istore4 (pc' := 104) dX12_shares_102 (by decide) rfl ?_
                refine AW.iinc5 (pc' := 107) dX12_shares_104 (by decide) rfl ?_
                refine AW.goto (tgt := 26) dX12_shares_107 ?_
                exact AW.weak (ih (k + 1) ((shareS (h 61) (gfM h) a v w) k acc) (by omega) (by first | omega | ((unfold shareS; split <;> omega))) (by first | omega | ((unfold shareS; split <;> omega))) kk) (by (repeat' first | exact LSub.e | refine LSub.n ?_ | refine LSub.c ?_ ?_) <;> first | rfl | exact congrArg Sum.inl (by first | rfl | omega | (unfold shareS; (try simp only [shareP, gfM]); (repeat' split) <;> omega)))
              · refine AW.iload_n (pc' := 87) dX12_shares_86 rfl ?_
                refine AW.iconst (pc' := 88) dX12_shares_87 ?_
                refine AW.icmp_ne (tgt := 100) (pc' := 91) dX12_shares_88 (by first | assumption | omega | (constructor <;> omega) | (simp only [Int.toNat_natCast]; omega) | exact b2_in _) (by first | assumption | omega | (constructor <;> omega) | (simp only [Int.toNat_natCast]; omega) | exact b2_in _) (fun c88 => ?_) (fun c88 => ?_)
                · refine AW.iconst (pc' := 101) dX12_shares_100 ?_
                  refine AW.iadd (pc' := 102) dX12_shares_101 ?_
                  refine AW.istore4 (pc' := 104) dX12_shares_102 (by decide) rfl ?_
                  refine AW.iinc5 (pc' := 107) dX12_shares_104 (by decide) rfl ?_
                  refine AW.goto (tgt := 26) dX12_shares_107 ?_
                  exact AW.weak (ih (k + 1) ((shareS (h 61) (gfM h) a v w) k acc) (by omega) (by first | omega | ((unfold shareS; split <;> omega))) (by first | omega | ((unfold shareS; split <;> omega))) kk) (by (repeat' first | exact LSub.e | refine LSub.n ?_ | refine LSub.c ?_ ?_) <;> first | rfl | exact congrArg Sum.inl (by first | rfl | omega | (unfold shareS; (try simp only [shareP, gfM]); (repeat' split) <;> omega)))
                · refine AW.iload (pc' := 93) dX12_shares_91 rfl ?_
                  refine AW.if_gt (tgt := 100) (pc' := 96) dX12_shares_93 (by first | assumption | omega | (constructor <;> omega) | (simp only [Int.toNat_natCast]; omega) | exact b2_in _) (fun c93 => ?_) (fun c93 => ?_)
                  · refine AW.iconst (pc' := 101) dX12_shares_100 ?_
                    refine AW.iadd (pc' := 102) dX12_shares_101 ?_
                    refine AW.istore4 (pc' := 104) dX12_shares_102 (by decide) rfl ?_
                    refine AW.iinc5 (pc' := 107) dX12_shares_104 (by decide) rfl ?_
                    refine AW.goto (tgt := 26) dX12_shares_107 ?_
                    exact AW.weak (ih (k + 1) ((shareS (h 61) (gfM h) a v w) k acc) (by omega) (by first | omega | ((unfold shareS; split <;> omega))) (by first | omega | ((unfold shareS; split <;> omega))) kk) (by (repeat' first | exact LSub.e | refine LSub.n ?_ | refine LSub.c ?_ ?_) <;> first | rfl | exact congrArg Sum.inl (by first | rfl | omega | (unfold shareS; (try simp only [shareP, gfM]); (repeat' split) <;> omega)))
                  · refine AW.iconst (pc' := 97) dX12_shares_96 ?_
                    refine AW.goto (tgt := 101) dX12_shares_97 ?_
                    refine AW.iadd (pc' := 102) dX12_shares_101 ?_
                    refine AW.istore4 (pc' := 104) dX12_shares_102 (by decide) rfl ?_
                    refine AW.iinc5 (pc' := 107) dX12_shares_104 (by decide) rfl ?_
                    refine AW.goto (tgt := 26) dX12_shares_107 ?_
                    exact AW.weak (ih (k + 1) ((shareS (h 61) (gfM h) a v w) k acc) (by omega) (by first | omega | ((unfold shareS; split <;> omega))) (by first | omega | ((unfold shareS; split <;> omega))) kk) (by (repeat' first | exact LSub.e | refine LSub.n ?_ | refine LSub.c ?_ ?_) <;> first | rfl | exact congrArg Sum.inl (by first | rfl | omega | (unfold shareS; (try simp only [shareP, gfM]); (repeat' split) <;> omega)))
        · refine AW.aload_n (pc' := 56) dX12_shares_55 rfl ?_
          refine AW.getR (pc' := 59) dX12_shares_56 ly_57 fX12_19 rfl ?_
          refine AW.iload (pc' := 61) dX12_shares_59 rfl ?_
          first | refine AW.ialdN (pc' := 62) dX12_shares_61 ly_61 (by first | assumption | omega | (constructor <;> omega) | (simp only [Int.toNat_natCast]; omega) | exact b2_in _) (by decide) (fun r61 => ?_) | refine AW.iald (pc' := 62) dX12_shares_61 ly_61 (by first | assumption | omega | (constructor <;> omega) | (simp only [Int.toNat_natCast]; omega) | exact b2_in _) (by first | assumption | omega | (constructor <;> omega) | (simp only [Int.toNat_natCast]; omega) | exact b2_in _) (by decide) (fun r61 => ?_)
          refine AW.iload_n (pc' := 63) dX12_shares_62 rfl ?_
          refine AW.icmp_eq (tgt := 69) (pc' := 66) dX12_shares_63 (by first | assumption | omega | (constructor <;> omega) | (simp only [Int.toNat_natCast]; omega) | exact b2_in _) (by first | assumption | omega | (constructor <;> omega) | (simp only [Int.toNat_natCast]; omega) | exact b2_in _) (fun c63 => ?_) (fun c63 => ?_)
          · refine AW.iload (pc' := 71) dX12_shares_69 rfl ?_
            refine AW.iload_n (pc' := 72) dX12_shares_71 rfl ?_
            refine AW.iconst (pc' := 73) dX12_shares_72 ?_
            refine AW.icmp_eq (tgt := 96) (pc' := 76) dX12_shares_73 (by first | assumption | omega | (constructor <;> omega) | (simp only [Int.toNat_natCast]; omega) | exact b2_in _) (by first | assumption | omega | (constructor <;> omega) | (simp only [Int.toNat_natCast]; omega) | exact b2_in _) (fun c73 => ?_) (fun c73 => ?_)
            · refine AW.iconst (pc' := 97) dX12_shares_96 ?_
              refine AW.goto (tgt := 101) dX12_shares_97 ?_
              refine AW.iadd (pc' := 102) dX12_shares_101 ?_
              refine AW.istore4 (pc' := 104) dX12_shares_102 (by decide) rfl ?_
              refine AW.iinc5 (pc' := 107) dX12_shares_104 (by decide) rfl ?_
              refine AW.goto (tgt := 26) dX12_shares_107 ?_
              exact AW.weak (ih (k + 1) ((shareS (h 61) (gfM h) a v w) k acc) (by omega) (by first | omega | ((unfold shareS; split <;> omega))) (by first | omega | ((unfold shareS; split <;> omega))) kk) (by (repeat' first | exact LSub.e | refine LSub.n ?_ | refine LSub.c ?_ ?_) <;> first | rfl | exact congrArg Sum.inl (by first | rfl | omega | (unfold shareS; (try simp only [shareP, gfM]); (repeat' split) <;> omega)))
            · refine AW.iload_n (pc' := 77) dX12_shares_76 rfl ?_
              refine AW.if_ne (tgt := 86) (pc' := 80) dX12_shares_77 (by first | assumption | omega | (constructor <;> omega) | (simp only [Int.toNat_natCast]; omega) | exact b2_in _) (fun c77 => ?_) (fun c77 => ?_)
              · refine AW.iload_n (pc' := 87) dX12_shares_86 rfl ?_
                refine AW.iconst (pc' := 88) dX12_shares_87 ?_
                refine AW.icmp_ne (tgt := 100) (pc' := 91) dX12_shares_88 (by first | assumption | omega | (constructor <;> omega) | (simp only [Int.toNat_natCast]; omega) | exact b2_in _) (by first | assumption | omega | (constructor <;> omega) | (simp only [Int.toNat_natCast]; omega) | exact b2_in _) (fun c88 => ?_) (fun c88 => ?_)
                · refine AW.iconst (pc' := 101) dX12_shares_100 ?_
                  refine AW.iadd (pc' := 102) dX12_shares_101 ?_
                  refine AW.istore4 (pc' := 104) dX12_shares_102 (by decide) rfl ?_
                  refine AW.iinc5 (pc' := 107) dX12_shares_104 (by decide) rfl ?_
                  refine AW.goto (tgt := 26) dX12_shares_107 ?_
                  exact AW.weak (ih (k + 1) ((shareS (h 61) (gfM h) a v w) k acc) (by omega) (by first | omega | ((unfold shareS; split <;> omega))) (by first | omega | ((unfold shareS; split <;> omega))) kk) (by (repeat' first | exact LSub.e | refine LSub.n ?_ | refine LSub.c ?_ ?_) <;> first | rfl | exact congrArg Sum.inl (by first | rfl | omega | (unfold shareS; (try simp only [shareP, gfM]); (repeat' split) <;> omega)))
                · refine AW.iload (pc' := 93) dX12_shares_91 rfl ?_
                  refine AW.if_gt (tgt := 100) (pc' := 96) dX12_shares_93 (by first | assumption | omega | (constructor <;> omega) | (simp only [Int.toNat_natCast]; omega) | exact b2_in _) (fun c93 => ?_) (fun c93 => ?_)
                  · refine AW.iconst (pc' := 101) dX12_shares_100 ?_
                    refine AW.iadd (pc' := 102) dX12_shares_101 ?_
                    refine AW.istore4 (pc' := 104) dX12_shares_102 (by decide) rfl ?_
                    refine AW.iinc5 (pc' := 107) dX12_shares_104 (by decide) rfl ?_
                    refine AW.goto (tgt := 26) dX12_shares_107 ?_
                    exact AW.weak (ih (k + 1) ((shareS (h 61) (gfM h) a v w) k acc) (by omega) (by first | omega | ((unfold shareS; split <;> omega))) (by first | omega | ((unfold shareS; split <;> omega))) kk) (by (repeat' first | exact LSub.e | refine LSub.n ?_ | refine LSub.c ?_ ?_) <;> first | rfl | exact congrArg Sum.inl (by first | rfl | omega | (unfold shareS; (try simp only [shareP, gfM]); (repeat' split) <;> omega)))
                  · refine AW.iconst (pc' := 97) dX12_shares_96 ?_
                    refine AW.goto (tgt := 101) dX12_shares_97 ?_
                    refine AW.iadd (pc' := 102) dX12_shares_101 ?_
                    refine AW.istore4 (pc' := 104) dX12_shares_102 (by decide) rfl ?_
                    refine AW.iinc5 (pc' := 107) dX12_shares_104 (by decide) rfl ?_
                    refine AW.goto (tgt := 26) dX12_shares_107 ?_
                    exact AW.weak (ih (k + 1) ((shareS (h 61) (gfM h) a v w) k acc) (by omega) (by first | omega | ((unfold shareS; split <;> omega))) (by first | omega | ((unfold shareS; split <;> omega))) kk) (by (repeat' first | exact LSub.e | refine LSub.n ?_ | refine LSub.c ?_ ?_) <;> first | rfl | exact congrArg Sum.inl (by first | rfl | omega | (unfold shareS; (try simp only [shareP, gfM]); (repeat' split) <;> omega)))
              · refine AW.iload (pc' := 82) dX12_shares_80 rfl ?_
                refine AW.iload_n (pc' := 83) dX12_shares_82 rfl ?_
                refine AW.icmp_ge (tgt := 96) (pc' := 86) dX12_shares_83 (by first | assumption | omega | (constructor <;> omega) | (simp only [Int.toNat_natCast]; omega) | exact b2_in _) (by first | assumption | omega | (constructor <;> omega) | (simp only [Int.toNat_natCast]; omega) | exact b2_in _) (fun c83 => ?_) (fun c83 => ?_)
                · refine AW.iconst (pc' := 97) dX12_shares_96 ?_
                  refine AW.goto (tgt := 101) dX12_shares_97 ?_
                  refine AW.iadd (pc' := 102) dX12_shares_101 ?_
                  refine AW.istore4 (pc' := 104) dX12_shares_102 (by decide) rfl ?_
                  refine AW.iinc5 (pc' := 107) dX12_shares_104 (by decide) rfl ?_
                  refine AW.goto (tgt := 26) dX12_shares_107 ?_
                  exact AW.weak (ih (k + 1) ((shareS (h 61) (gfM h) a v w) k acc) (by omega) (by first | omega | ((unfold shareS; split <;> omega))) (by first | omega | ((unfold shareS; split <;> omega))) kk) (by (repeat' first | exact LSub.e | refine LSub.n ?_ | refine LSub.c ?_ ?_) <;> first | rfl | exact congrArg Sum.inl (by first | rfl | omega | (unfold shareS; (try simp only [shareP, gfM]); (repeat' split) <;> omega)))
                · refine AW.iload_n (pc' := 87) dX12_shares_86 rfl ?_
                  refine AW.iconst (pc' := 88) dX12_shares_87 ?_
                  refine AW.icmp_ne (tgt := 100) (pc' := 91) dX12_shares_88 (by first | assumption | omega | (constructor <;> omega) | (simp only [Int.toNat_natCast]; omega) | exact b2_in _) (by first | assumption | omega | (constructor <;> omega) | (simp only [Int.toNat_natCast]; omega) | exact b2_in _) (fun c88 => ?_) (fun c88 => ?_)
                  · refine AW.iconst (pc' := 101) dX12_shares_100 ?_
                    refine AW.iadd (pc' := 102) dX12_shares_101 ?_
                    refine AW.istore4 (pc' := 104) dX12_shares_102 (by decide) rfl ?_
                    refine AW.iinc5 (pc' := 107) dX12_shares_104 (by decide) rfl ?_
                    refine AW.goto (tgt := 26) dX12_shares_107 ?_
                    exact AW.weak (ih (k + 1) ((shareS (h 61) (gfM h) a v w) k acc) (by omega) (by first | omega | ((unfold shareS; split <;> omega))) (by first | omega | ((unfold shareS; split <;> omega))) kk) (by (repeat' first | exact LSub.e | refine LSub.n ?_ | refine LSub.c ?_ ?_) <;> first | rfl | exact congrArg Sum.inl (by first | rfl | omega | (unfold shareS; (try simp only [shareP, gfM]); (repeat' split) <;> omega)))
                  · refine AW.iload (pc' := 93) dX12_shares_91 rfl ?_
                    refine AW.if_gt (tgt := 100) (pc' := 96) dX12_shares_93 (by first | assumption | omega | (constructor <;> omega) | (simp only [Int.toNat_natCast]; omega) | exact b2_in _) (fun c93 => ?_) (fun c93 => ?_)
                    · refine AW.iconst (pc' := 101) dX12_shares_100 ?_
                      refine AW.iadd (pc' := 102) dX12_shares_101 ?_
                      refine AW.istore4 (pc' := 104) dX12_shares_102 (by decide) rfl ?_
                      refine AW.iinc5 (pc' := 107) dX12_shares_104 (by decide) rfl ?_
                      refine AW.goto (tgt := 26) dX12_shares_107 ?_
                      exact AW.weak (ih (k + 1) ((shareS (h 61) (gfM h) a v w) k acc) (by omega) (by first | omega | ((unfold shareS; split <;> omega))) (by first | omega | ((unfold shareS; split <;> omega))) kk) (by (repeat' first | exact LSub.e | refine LSub.n ?_ | refine LSub.c ?_ ?_) <;> first | rfl | exact congrArg Sum.inl (by first | rfl | omega | (unfold shareS; (try simp only [shareP, gfM]); (repeat' split) <;> omega)))
                    · refine AW.iconst (pc' := 97) dX12_shares_96 ?_
                      refine AW.goto (tgt := 101) dX12_shares_97 ?_
                      refine AW.iadd (pc' := 102) dX12_shares_101 ?_
                      refine AW.istore4 (pc' := 104) dX12_shares_102 (by decide) rfl ?_
                      refine AW.iinc5 (pc' := 107) dX12_shares_104 (by decide) rfl ?_
                      refine AW.goto (tgt := 26) dX12_shares_107 ?_
                      exact AW.weak (ih (k + 1) ((shareS (h 61) (gfM h) a v w) k acc) (by omega) (by first | omega | ((unfold shareS; split <;> omega))) (by first | omega | ((unfold shareS; split <;> omega))) kk) (by (repeat' first | exact LSub.e | refine LSub.n ?_ | refine LSub.c ?_ ?_) <;> first | rfl | exact congrArg Sum.inl (by first | rfl | omega | (unfold shareS; (try simp only [shareP, gfM]); (repeat' split) <;> omega)))
          · refine AW.goto (tgt := 104) dX12_shares_66 ?_
            refine AW.iinc5 (pc' := 107) dX12_shares_104 (by decide) rfl ?_
            refine AW.goto (tgt := 26) dX12_shares_107 ?_
            exact AW.weak (ih (k + 1) ((shareS (h 61) (gfM h) a v w) k acc) (by omega) (by first | omega | ((unfold shareS; split <;> omega))) (by first | omega | ((unfold shareS; split <;> omega))) kk) (by (repeat' first | exact LSub.e | refine LSub.n ?_ | refine LSub.c ?_ ?_) <;> first | rfl | exact congrArg Sum.inl (by first | rfl | omega | (unfold shareS; (try simp only [shareP, gfM]); (repeat' split) <;> omega)))
set_option maxRecDepth 100000 in
set_option maxHeartbeats 4000000 in
theorem c_X12_shares {K : KT} {dep : Nat} {h : Hp} {a v w : Int} (hd : 2 ≤ dep) (hI : IMa h) (q1 : inI a) (q2 : inI v) (q3 : inI w) : AM K yX12_shares cX12_shares 7 (some .int) dep [vR 57, vI a, vI v, vI w] h (some (vI (if (0 ≤ a ∧ a ≤ 2) ∧ 0 ≤ w ∧ w ≤ 2 then shareF (h 57 13) (h 61) (gfM h) a v w else -1))) (h) := by
  refine AM.of (own := RX12) (ls := [some (vR 57), some (vI a), some (vI v), some (vI w), none, none, none]) rfl (by decide +kernel) (by exact Nat.le_of_ble_eq_true rfl) rfl (fun hO => ?_)
  have g6 := hI.1.1
  refine AW.iload_n (pc' := 1) dX12_shares_0 rfl ?_
  refine AW.iconst (pc' := 2) dX12_shares_1 ?_
  refine AW.iconst (pc' := 3) dX12_shares_2 ?_
  refine AW.invS3 (pc' := 6) dX12_shares_3 mlX12_117 mX12_isIn (c_X12_isIn (dep := dep - 1) (by first | assumption | omega | (constructor <;> omega) | (simp only [Int.toNat_natCast]; omega) | exact b2_in _) (by first | assumption | omega | (constructor <;> omega) | (simp only [Int.toNat_natCast]; omega) | exact b2_in _) (by first | assumption | omega | (constructor <;> omega) | (simp only [Int.toNat_natCast]; omega) | exact b2_in _)) ?_
  refine AW.ifb_eq (tgt := 18) (pc' := 9) dX12_shares_6 (fun c6 => ?_) (fun c6 => ?_)
  · refine AW.iconst (pc' := 19) dX12_shares_18 ?_
    refine AW.iret dX12_shares_19 ?_ ?_
    all_goals first | rfl | exact congrArg (fun z : Int => (some (vI z) : Option AV)) (b2_t (by omega)) | exact congrArg (fun z : Int => (some (vI z) : Option AV)) (b2_f (by omega)) | ((repeat' split) <;> first | rfl | omega)
  · refine AW.iload_n (pc' := 10) dX12_shares_9 rfl ?_
    refine AW.iconst (pc' := 11) dX12_shares_10 ?_
    refine AW.iconst (pc' := 12) dX12_shares_11 ?_
    refine AW.invS3 (pc' := 15) dX12_shares_12 mlX12_117 mX12_isIn (c_X12_isIn (dep := dep - 1) (by first | assumption | omega | (constructor <;> omega) | (simp only [Int.toNat_natCast]; omega) | exact b2_in _) (by first | assumption | omega | (constructor <;> omega) | (simp only [Int.toNat_natCast]; omega) | exact b2_in _) (by first | assumption | omega | (constructor <;> omega) | (simp only [Int.toNat_natCast]; omega) | exact b2_in _)) ?_
    refine AW.ifb_ne (tgt := 20) (pc' := 18) dX12_shares_15 (fun c15 => ?_) (fun c15 => ?_)
    · refine AW.iconst (pc' := 21) dX12_shares_20 ?_
      refine AW.istore4 (pc' := 23) dX12_shares_21 (by decide) rfl ?_
      refine AW.iconst (pc' := 24) dX12_shares_23 ?_
      refine AW.istore5 (pc' := 26) dX12_shares_24 (by decide) rfl ?_
      refine AW.weak (lp_X12_shares hI (a := a) (v := v) (w := w) (by omega) (by omega) (by first | assumption | omega | (constructor <;> omega) | (simp only [Int.toNat_natCast]; omega) | exact b2_in _) hd (h 57 13).toNat 0 0 (by omega) (by omega) (by omega) ?_) (by (repeat' first | exact LSub.e | refine LSub.n ?_ | refine LSub.c ?_ ?_) <;> first | rfl | exact congrArg Sum.inl (by first | rfl | omega | omega))
      refine AW.iload (pc' := 112) dX12_shares_110 rfl ?_
      refine AW.iret dX12_shares_112 ?_ ?_
      all_goals first | rfl | exact congrArg (fun z : Int => (some (vI z) : Option AV)) (b2_t (by omega)) | exact congrArg (fun z : Int => (some (vI z) : Option AV)) (b2_f (by omega)) | ((repeat' split) <;> first | rfl | omega)
    · refine AW.iconst (pc' := 19) dX12_shares_18 ?_
      refine AW.iret dX12_shares_19 ?_ ?_
      all_goals first | rfl | exact congrArg (fun z : Int => (some (vI z) : Option AV)) (b2_t (by omega)) | exact congrArg (fun z : Int => (some (vI z) : Option AV)) (b2_f (by omega)) | ((repeat' split) <;> first | rfl | omega)
set_option maxRecDepth 100000 in
set_option maxHeartbeats 4000000 in
theorem lp_X12_led {K : KT} {X : XT} {dep : Nat} {h : Hp} (hI : IMa h) (hd : 2 ≤ dep) : ∀ (n k : Nat) (acc : Int), (k : Int) + n = h 57 13 → acc = -2 ∨ 0 ≤ acc ∧ acc < k → AW K X RX12 cX12_led 4 (some .int) dep 46 [some (vR 57), some (vI ((lp (ledS (gfM h)) n k acc))), none, none] [] h → AW K X RX12 cX12_led 4 (some .int) dep 5 [some (vR 57), some (vI (acc)), some (vI ((k : Int))), none] [] h := by
  have g6 := hI.1.1
  have g7 := hI.1.2.1
  intro n
  induction n with
  | zero =>
    intro k acc hk i0 kk
    refine AW.iload_n (pc' := 6) dX12_led_5 rfl ?_
    refine AW.aload_n (pc' := 7) dX12_led_6 rfl ?_
    refine AW.getI (pc' := 10) dX12_led_7 ly_57 fX12_122 rfl (fun r7 => ?_)
    refine AW.icmp_ge (tgt := 46) (pc' := 13) dX12_led_10 (by first | assumption | omega | (constructor <;> omega) | (simp only [Int.toNat_natCast]; omega) | exact b2_in _) (by first | assumption | omega | (constructor <;> omega) | (simp only [Int.toNat_natCast]; omega) | exact b2_in _) (fun c10 => ?_) (fun c10 => ?_)
    · exact AW.weak kk (by (repeat' first | exact LSub.e | refine LSub.n ?_ | refine LSub.c ?_ ?_) <;> first | rfl | exact congrArg Sum.inl (by first | rfl | omega | omega))
    · omega
  | succ n ih =>
    intro k acc hk i0 kk
    have hkr : ((k : Nat) : Int) < h 57 13 := by omega
    have tg1 := tgain_in (rgM_in hI ((k : Nat) : Int))
    have tg2 := tgain_in (rgM_in hI acc)
    refine AW.iload_n (pc' := 6) dX12_led_5 rfl ?_
    refine AW.aload_n (pc' := 7) dX12_led_6 rfl ?_
    refine AW.getI (pc' := 10) dX12_led_7 ly_57 fX12_122 rfl (fun r7 => ?_)
    refine AW.icmp_ge (tgt := 46) (pc' := 13) dX12_led_10 (by first | assumption | omega | (constructor <;> omega) | (simp only [Int.toNat_natCast]; omega) | exact b2_in _) (by first | assumption | omega | (constructor <;> omega) | (simp only [Int.toNat_natCast]; omega) | exact b2_in _) (fun c10 => ?_) (fun c10 => ?_)
    · omega
    · refine AW.aload_n (pc' := 14) dX12_led_13 rfl ?_
      refine AW.iload_n (pc' := 15) dX12_led_14 rfl ?_
      refine AW.invV1 (pc' := 18) dX12_led_15 mlX12_319 mX12_gainsOf ly_57 rfl (c_X12_gainsOf (dep := dep - 1) (by first | assumption | omega | (constructor <;> omega) | (simp only [Int.toNat_natCast]; omega) | exact b2_in _) (by first | assumption | omega | (constructor <;> omega) | (simp only [Int.toNat_natCast]; omega) | exact b2_in _) (by first | assumption | omega | (constructor <;> omega) | (simp only [Int.toNat_natCast]; omega) | exact b2_in _)) ?_
      try simp only [Int.toNat_natCast]
      refine AW.istore3n (pc' := 19) dX12_led_18 (by decide) rfl ?_
      refine AW.iload_n (pc' := 20) dX12_led_19 rfl ?_
      refine AW.ldc (v := -2000000000) (pc' := 22) dX12_led_20 kX12_156 ?_
      refine AW.icmp_eq (tgt := 40) (pc' := 25) dX12_led_22 (by first | assumption | omega | (constructor <;> omega) | (simp only [Int.toNat_natCast]; omega) | exact b2_in _) (by first | assumption | omega | (constructor <;> omega) | (simp only [Int.toNat_natCast]; omega) | exact b2_in _) (fun c22 => ?_) (fun c22 => ?_)
      · refine AW.iinc2 (pc' := 43) dX12_led_40 (by decide) rfl ?_
        refine AW.goto (tgt := 5) dX12_led_43 ?_
        exact AW.weak (ih (k + 1) ((ledS (gfM h)) k acc) (by omega) (by first | omega | ((unfold ledS; split <;> omega))) kk) (by (repeat' first | exact LSub.e | refine LSub.n ?_ | refine LSub.c ?_ ?_) <;> first | rfl | exact congrArg Sum.inl (by first | rfl | omega | (unfold ledS; (try simp only [gfM] at *); (repeat' split) <;> omega)))
      · refine AW.iload_n (pc' := 26) dX12_led_25 rfl ?_
        refine AW.if_lt (tgt := 38) (pc' := 29) dX12_led_26 (by first | assumption | omega | (constructor <;> omega) | (simp only [Int.toNat_natCast]; omega) | exact b2_in _) (fun c26 => ?_) (fun c26 => ?_)
        · refine AW.iload_n (pc' := 39) dX12_led_38 rfl ?_
          refine AW.istore1n (pc' := 40) dX12_led_39 (by decide) rfl ?_
          refine AW.iinc2 (pc' := 43) dX12_led_40 (by decide) rfl ?_
          refine AW.goto (tgt := 5) dX12_led_43 ?_
          exact AW.weak (ih (k + 1) ((ledS (gfM h)) k acc) (by omega) (by first | omega | ((unfold ledS; split <;> omega))) kk) (by (repeat' first | exact LSub.e | refine LSub.n ?_ | refine LSub.c ?_ ?_) <;> first | rfl | exact congrArg Sum.inl (by first | rfl | omega | (unfold ledS; (try simp only [gfM] at *); (repeat' split) <;> omega)))
        · refine AW.iload_n (pc' := 30) dX12_led_29 rfl ?_
          refine AW.aload_n (pc' := 31) dX12_led_30 rfl ?_
          refine AW.iload_n (pc' := 32) dX12_led_31 rfl ?_
          refine AW.invV1 (pc' := 35) dX12_led_32 mlX12_319 mX12_gainsOf ly_57 rfl (c_X12_gainsOf (dep := dep - 1) (by first | assumption | omega | (constructor <;> omega) | (simp only [Int.toNat_natCast]; omega) | exact b2_in _) (by first | assumption | omega | (constructor <;> omega) | (simp only [Int.toNat_natCast]; omega) | exact b2_in _) (by first | assumption | omega | (constructor <;> omega) | (simp only [Int.toNat_natCast]; omega) | exact b2_in _)) ?_
          try simp only [Int.toNat_natCast]
          have e9 : 0 ≤ acc → gfM h acc.toNat = tgain (rgM h acc) := fun z => by simp only [gfM]; rw [Int.toNat_of_nonneg z]
          refine AW.icmp_le (tgt := 40) (pc' := 38) dX12_led_35 (by first | assumption | omega | (constructor <;> omega) | (simp only [Int.toNat_natCast]; omega) | exact b2_in _) (by first | assumption | omega | (constructor <;> omega) | (simp only [Int.toNat_natCast]; omega) | exact b2_in _) (fun c35 => ?_) (fun c35 => ?_)
          · refine AW.iinc2 (pc' := 43) dX12_led_40 (by decide) rfl ?_
            refine AW.goto (tgt := 5) dX12_led_43 ?_
            exact AW.weak (ih (k + 1) ((ledS (gfM h)) k acc) (by omega) (by first | omega | ((unfold ledS; split <;> omega))) kk) (by (repeat' first | exact LSub.e | refine LSub.n ?_ | refine LSub.c ?_ ?_) <;> first | rfl | exact congrArg Sum.inl (by first | rfl | omega | (unfold ledS; (try simp only [gfM] at *); (repeat' split) <;> omega)))
          · refine AW.iload_n (pc' := 39) dX12_led_38 rfl ?_
            refine AW.istore1n (pc' := 40) dX12_led_39 (by decide) rfl ?_
            refine AW.iinc2 (pc' := 43) dX12_led_40 (by decide) rfl ?_
            refine AW.goto (tgt := 5) dX12_led_43 ?_
            exact AW.weak (ih (k + 1) ((ledS (gfM h)) k acc) (by omega) (by first | omega | ((unfold ledS; split <;> omega))) kk) (by (repeat' first | exact LSub.e | refine LSub.n ?_ | refine LSub.c ?_ ?_) <;> first | rfl | exact congrArg Sum.inl (by first | rfl | omega | (unfold ledS; (try simp only [gfM] at *); (repeat' split) <;> omega)))
set_option maxRecDepth 100000 in
set_option maxHeartbeats 4000000 in
theorem c_X12_led {K : KT} {dep : Nat} {h : Hp}  (hd : 2 ≤ dep) (hI : IMa h) : AM K yX12_led cX12_led 4 (some .int) dep [vR 57] h (some (vI (ledF (h 57 13) (gfM h)))) (h) := by
  refine AM.of (own := RX12) (ls := [some (vR 57), none, none, none]) rfl (by decide +kernel) (by exact Nat.le_of_ble_eq_true rfl) rfl (fun hO => ?_)
  have g6 := hI.1.1
  refine AW.bipush (pc' := 2) dX12_led_0 (by decide) ?_
  refine AW.istore1n (pc' := 3) dX12_led_2 (by decide) rfl ?_
  refine AW.iconst (pc' := 4) dX12_led_3 ?_
  refine AW.istore2n (pc' := 5) dX12_led_4 (by decide) rfl ?_
  refine AW.weak (lp_X12_led hI hd (h 57 13).toNat 0 (-2) (by omega) (Or.inl rfl) ?_) (by (repeat' first | exact LSub.e | refine LSub.n ?_ | refine LSub.c ?_ ?_) <;> first | rfl | exact congrArg Sum.inl (by first | rfl | omega | omega))
  refine AW.iload_n (pc' := 47) dX12_led_46 rfl ?_
  refine AW.iret dX12_led_47 ?_ ?_
  all_goals first | rfl | exact congrArg (fun z : Int => (some (vI z) : Option AV)) (b2_t (by omega)) | exact congrArg (fun z : Int => (some (vI z) : Option AV)) (b2_f (by omega)) | ((repeat' split) <;> first | rfl | omega)
