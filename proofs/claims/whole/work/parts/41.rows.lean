/-! runs from a row; shift; the class -/
abbrev rowP (nr nc ns : Int) (r0 r1 r2 r3 r4 : Int) : Prop := (0 ≤ r0 ∧ r0 < nr) ∧ (0 ≤ r1 ∧ r1 < nc) ∧ (0 ≤ r2 ∧ r2 ≤ 99) ∧ (10 ≤ r3 ∧ r3 ≤ 29999) ∧ (r4 = -1 ∨ 0 ≤ r4 ∧ r4 < ns)
/-- is there a run at that place of a row, and may it come -/
abbrev rfP (sz len nr nc ns : Int) (row : Nat → Int) (f : Int) : Prop := (0 ≤ f ∧ f + 5 ≤ len) ∧ rowP nr nc ns (wr (row f.toNat)) (wr (row (f.toNat + 1))) (wr (row (f.toNat + 2))) (wr (row (f.toNat + 3))) (wr (row (f.toNat + 4))) ∧ sz < 120
set_option maxRecDepth 100000 in
set_option maxHeartbeats 4000000 in
theorem c_X11_runFromRow {K : KT} {dep : Nat} {h : Hp} {a b : Int} (hd : 3 ≤ dep) (q0 : 0 ≤ h 12 10) (hQ1 : PO (h 12 10) (h 18)) (hQ2 : PO (h 12 10) (h 19)) (qa : 0 ≤ a ∧ a < 6) (ql : 0 ≤ h 49 a.toNat ∧ h 49 a.toNat ≤ 60) (qb : -1000000000000 ≤ b ∧ b ≤ 1000000000000) : AMp K yX11_runFromRow cX11_runFromRow 11 (some .boolean) dep [vR 0, vI a, vL b] h (some (vI (b2 (rfP (h 12 10) (h 49 a.toNat) (h 1 4) (h 10 1) (h 6 3) (h (51 + a.toNat)) b)))) (fun x => (¬ (rfP (h 12 10) (h 49 a.toNat) (h 1 4) (h 10 1) (h 6 3) (h (51 + a.toNat)) b) ∧ x = h) ∨ ((rfP (h 12 10) (h 49 a.toNat) (h 1 4) (h 10 1) (h 6 3) (h (51 + a.toNat)) b) ∧ CP h (wr (h (51 + a.toNat) (b.toNat))) (wr (h (51 + a.toNat) (b.toNat + 1))) (wr (h (51 + a.toNat) (b.toNat + 2))) (wr (h (51 + a.toNat) (b.toNat + 3))) (wr (h (51 + a.toNat) (b.toNat + 4))) x)) := by
  refine AM.of (own := RX11) (ls := [some (vR 0), some (vI a), some (vL b), none, none, none, none, none, none, none, none]) rfl (by decide +kernel) (by exact Nat.le_of_ble_eq_true rfl) rfl (fun hO => ?_)
  refine AW.lload_n (pc' := 1) dX11_runFromRow_0 rfl ?_
  refine AW.lconst_0 (pc' := 2) dX11_runFromRow_1 ?_
  refine AW.lcmp (pc' := 3) dX11_runFromRow_2 (by first | assumption | omega | (constructor <;> omega) | (simp only [Int.toNat_natCast]; omega) | exact b2_in _) (by first | assumption | omega | (constructor <;> omega) | (simp only [Int.toNat_natCast]; omega) | exact b2_in _) ?_
  refine AW.if_lt (tgt := 25) (pc' := 6) dX11_runFromRow_3 (cmpI_in _ _) (fun c3 => ?_) (fun c3 => ?_)
  · simp only [cmpI_lt, cmpI_le, cmpI_gt, cmpI_ge, cmpI_eq, cmpI_ne] at c3
    refine AW.iconst (pc' := 26) dX11_runFromRow_25 ?_
    refine AW.zret dX11_runFromRow_26 ?_ ?_ (by first | exact Or.inl rfl | exact Or.inr rfl | exact b2_01 _ | assumption | (subst_vars; omega))
    · first | exact congrArg (fun z : Int => (some (vI z) : Option AV)) (b2_t pf) | exact congrArg (fun z : Int => (some (vI z) : Option AV)) (b2_f nf) | exact congrArg (fun z : Int => (some (vI z) : Option AV)) (b2_f (by unfold rfP; omega))
    · first | exact Or.inl ⟨nf, rfl⟩ | exact Or.inr ⟨pf, by subst hw0 hw1 hw2 hw3 hw4; exact s121⟩ | exact Or.inl ⟨by unfold rfP; omega, rfl⟩ | omega
  · simp only [cmpI_lt, cmpI_le, cmpI_gt, cmpI_ge, cmpI_eq, cmpI_ne] at c3
    refine AW.lload_n (pc' := 7) dX11_runFromRow_6 rfl ?_
    refine AW.ldc2 (v := 5) (pc' := 10) dX11_runFromRow_7 klX11_119 ?_
    refine AW.ladd (pc' := 11) dX11_runFromRow_10 ?_
    refine AW.aload_n (pc' := 12) dX11_runFromRow_11 rfl ?_
    refine AW.getR (pc' := 15) dX11_runFromRow_12 ly_0 fX11_81 rfl ?_
    refine AW.getR (pc' := 18) dX11_runFromRow_15 ly_46 fX11_125 rfl ?_
    refine AW.iload_n (pc' := 19) dX11_runFromRow_18 rfl ?_
    first | refine AW.ialdN (pc' := 20) dX11_runFromRow_19 ly_49 (by first | assumption | omega | (constructor <;> omega) | (simp only [Int.toNat_natCast]; omega) | exact b2_in _) (by decide) (fun r19 => ?_) | refine AW.iald (pc' := 20) dX11_runFromRow_19 ly_49 (by first | assumption | omega | (constructor <;> omega) | (simp only [Int.toNat_natCast]; omega) | exact b2_in _) (by first | assumption | omega | (constructor <;> omega) | (simp only [Int.toNat_natCast]; omega) | exact b2_in _) (by decide) (fun r19 => ?_)
    try simp only [Int.reduceToNat, f1, f2, f3, f4] at r19 ⊢
    refine AW.i2l (pc' := 21) dX11_runFromRow_20 (by first | assumption | omega | (constructor <;> omega) | (simp only [Int.toNat_natCast]; omega) | exact b2_in _) ?_
    refine AW.lcmp (pc' := 22) dX11_runFromRow_21 (by first | assumption | omega | (constructor <;> omega) | (simp only [Int.toNat_natCast]; omega) | exact b2_in _) (by first | assumption | omega | (constructor <;> omega) | (simp only [Int.toNat_natCast]; omega) | exact b2_in _) ?_
    refine AW.if_le (tgt := 27) (pc' := 25) dX11_runFromRow_22 (cmpI_in _ _) (fun c22 => ?_) (fun c22 => ?_)
    · simp only [cmpI_lt, cmpI_le, cmpI_gt, cmpI_ge, cmpI_eq, cmpI_ne] at c22
      refine AW.aload_n (pc' := 28) dX11_runFromRow_27 rfl ?_
      refine AW.getR (pc' := 31) dX11_runFromRow_28 ly_0 fX11_81 rfl ?_
      refine AW.getR (pc' := 34) dX11_runFromRow_31 ly_46 fX11_128 rfl ?_
      refine AW.iload_n (pc' := 35) dX11_runFromRow_34 rfl ?_
      by_cases v35_0 : a = 0
      · subst v35_0
        refine AW.aaldL (t := 51) (pc' := 36) dX11_runFromRow_35 ly_50 (by decide) (by decide) (by decide) rfl ?_
        refine AW.astore4 (pc' := 38) dX11_runFromRow_36 (by decide) rfl ?_
        have f1 : (b + 1).toNat = b.toNat + 1 := by omega
        have f2 : (b + 2).toNat = b.toNat + 2 := by omega
        have f3 : (b + 3).toNat = b.toNat + 3 := by omega
        have f4 : (b + 4).toNat = b.toNat + 4 := by omega
        refine AW.lload_n (pc' := 39) dX11_runFromRow_38 rfl ?_
        refine AW.l2i (pc' := 40) dX11_runFromRow_39 ?_
        refine AW.istore5 (pc' := 42) dX11_runFromRow_40 (by decide) rfl ?_
        refine AW.aload (pc' := 44) dX11_runFromRow_42 rfl ?_
        refine AW.iload (pc' := 46) dX11_runFromRow_44 rfl ?_
        first | refine AW.laldN (pc' := 47) dX11_runFromRow_46 ly_51 (by first | assumption | omega | (constructor <;> omega) | (simp only [Int.toNat_natCast]; omega) | exact b2_in _) (by decide) (fun r46 => ?_) | refine AW.lald (pc' := 47) dX11_runFromRow_46 ly_51 (by first | assumption | omega | (constructor <;> omega) | (simp only [Int.toNat_natCast]; omega) | exact b2_in _) (by first | assumption | omega | (constructor <;> omega) | (simp only [Int.toNat_natCast]; omega) | exact b2_in _) (by decide) (fun r46 => ?_)
        try simp only [Int.reduceToNat, f1, f2, f3, f4] at r46 ⊢
        refine AW.l2i (pc' := 48) dX11_runFromRow_47 ?_
        refine AW.cong (b := wr (h (51 + 0) (b.toNat))) (wr_of _) ?_
        have i0 := wr_in (h (51 + 0) (b.toNat))
        generalize hw0 : wr (h (51 + 0) (b.toNat)) = w0 at i0 ⊢
        refine AW.istore6 (pc' := 50) dX11_runFromRow_48 (by decide) rfl ?_
        refine AW.aload (pc' := 52) dX11_runFromRow_50 rfl ?_
        refine AW.iload (pc' := 54) dX11_runFromRow_52 rfl ?_
        refine AW.iconst (pc' := 55) dX11_runFromRow_54 ?_
        refine AW.iadd (pc' := 56) dX11_runFromRow_55 ?_
        first | refine AW.laldN (pc' := 57) dX11_runFromRow_56 ly_51 (by first | assumption | omega | (constructor <;> omega) | (simp only [Int.toNat_natCast]; omega) | exact b2_in _) (by decide) (fun r56 => ?_) | refine AW.lald (pc' := 57) dX11_runFromRow_56 ly_51 (by first | assumption | omega | (constructor <;> omega) | (simp only [Int.toNat_natCast]; omega) | exact b2_in _) (by first | assumption | omega | (constructor <;> omega) | (simp only [Int.toNat_natCast]; omega) | exact b2_in _) (by decide) (fun r56 => ?_)
        try simp only [Int.reduceToNat, f1, f2, f3, f4] at r56 ⊢
        refine AW.l2i (pc' := 58) dX11_runFromRow_57 ?_
        refine AW.cong (b := wr (h (51 + 0) (b.toNat + 1))) (wr_of _) ?_
        have i1 := wr_in (h (51 + 0) (b.toNat + 1))
        generalize hw1 : wr (h (51 + 0) (b.toNat + 1)) = w1 at i1 ⊢
        refine AW.istore7 (pc' := 60) dX11_runFromRow_58 (by decide) rfl ?_
        refine AW.aload (pc' := 62) dX11_runFromRow_60 rfl ?_
        refine AW.iload (pc' := 64) dX11_runFromRow_62 rfl ?_
        refine AW.iconst (pc' := 65) dX11_runFromRow_64 ?_
        refine AW.iadd (pc' := 66) dX11_runFromRow_65 ?_
        first | refine AW.laldN (pc' := 67) dX11_runFromRow_66 ly_51 (by first | assumption | omega | (constructor <;> omega) | (simp only [Int.toNat_natCast]; omega) | exact b2_in _) (by decide) (fun r66 => ?_) | refine AW.lald (pc' := 67) dX11_runFromRow_66 ly_51 (by first | assumption | omega | (constructor <;> omega) | (simp only [Int.toNat_natCast]; omega) | exact b2_in _) (by first | assumption | omega | (constructor <;> omega) | (simp only [Int.toNat_natCast]; omega) | exact b2_in _) (by decide) (fun r66 => ?_)
        try simp only [Int.reduceToNat, f1, f2, f3, f4] at r66 ⊢
        refine AW.l2i (pc' := 68) dX11_runFromRow_67 ?_
        refine AW.cong (b := wr (h (51 + 0) (b.toNat + 2))) (wr_of _) ?_
        have i2 := wr_in (h (51 + 0) (b.toNat + 2))
        generalize hw2 : wr (h (51 + 0) (b.toNat + 2)) = w2 at i2 ⊢
        refine AW.istore8 (pc' := 70) dX11_runFromRow_68 (by decide) rfl ?_
        refine AW.aload (pc' := 72) dX11_runFromRow_70 rfl ?_
        refine AW.iload (pc' := 74) dX11_runFromRow_72 rfl ?_
        refine AW.iconst (pc' := 75) dX11_runFromRow_74 ?_
        refine AW.iadd (pc' := 76) dX11_runFromRow_75 ?_
        first | refine AW.laldN (pc' := 77) dX11_runFromRow_76 ly_51 (by first | assumption | omega | (constructor <;> omega) | (simp only [Int.toNat_natCast]; omega) | exact b2_in _) (by decide) (fun r76 => ?_) | refine AW.lald (pc' := 77) dX11_runFromRow_76 ly_51 (by first | assumption | omega | (constructor <;> omega) | (simp only [Int.toNat_natCast]; omega) | exact b2_in _) (by first | assumption | omega | (constructor <;> omega) | (simp only [Int.toNat_natCast]; omega) | exact b2_in _) (by decide) (fun r76 => ?_)
        try simp only [Int.reduceToNat, f1, f2, f3, f4] at r76 ⊢
        refine AW.l2i (pc' := 78) dX11_runFromRow_77 ?_
        refine AW.cong (b := wr (h (51 + 0) (b.toNat + 3))) (wr_of _) ?_
        have i3 := wr_in (h (51 + 0) (b.toNat + 3))
        generalize hw3 : wr (h (51 + 0) (b.toNat + 3)) = w3 at i3 ⊢
        refine AW.istore9 (pc' := 80) dX11_runFromRow_78 (by decide) rfl ?_
        refine AW.aload (pc' := 82) dX11_runFromRow_80 rfl ?_
        refine AW.iload (pc' := 84) dX11_runFromRow_82 rfl ?_
        refine AW.iconst (pc' := 85) dX11_runFromRow_84 ?_
        refine AW.iadd (pc' := 86) dX11_runFromRow_85 ?_
        first | refine AW.laldN (pc' := 87) dX11_runFromRow_86 ly_51 (by first | assumption | omega | (constructor <;> omega) | (simp only [Int.toNat_natCast]; omega) | exact b2_in _) (by decide) (fun r86 => ?_) | refine AW.lald (pc' := 87) dX11_runFromRow_86 ly_51 (by first | assumption | omega | (constructor <;> omega) | (simp only [Int.toNat_natCast]; omega) | exact b2_in _) (by first | assumption | omega | (constructor <;> omega) | (simp only [Int.toNat_natCast]; omega) | exact b2_in _) (by decide) (fun r86 => ?_)
        try simp only [Int.reduceToNat, f1, f2, f3, f4] at r86 ⊢
        refine AW.l2i (pc' := 88) dX11_runFromRow_87 ?_
        refine AW.cong (b := wr (h (51 + 0) (b.toNat + 4))) (wr_of _) ?_
        have i4 := wr_in (h (51 + 0) (b.toNat + 4))
        generalize hw4 : wr (h (51 + 0) (b.toNat + 4)) = w4 at i4 ⊢
        refine AW.istore10 (pc' := 90) dX11_runFromRow_88 (by decide) rfl ?_
        refine AW.aload_n (pc' := 91) dX11_runFromRow_90 rfl ?_
        refine AW.iload (pc' := 93) dX11_runFromRow_91 rfl ?_
        refine AW.iload (pc' := 95) dX11_runFromRow_93 rfl ?_
        refine AW.iload (pc' := 97) dX11_runFromRow_95 rfl ?_
        refine AW.iload (pc' := 99) dX11_runFromRow_97 rfl ?_
        refine AW.iload (pc' := 101) dX11_runFromRow_99 rfl ?_
        refine AW.invV5 (pc' := 104) dX11_runFromRow_101 mlX11_104 mX11_isRun ly_0 rfl (c_X11_isRun (dep := dep - 1) (by first | assumption | omega | (constructor <;> omega) | (simp only [Int.toNat_natCast]; omega) | exact b2_in _) (by first | assumption | omega | (constructor <;> omega) | (simp only [Int.toNat_natCast]; omega) | exact b2_in _) (by first | assumption | omega | (constructor <;> omega) | (simp only [Int.toNat_natCast]; omega) | exact b2_in _) (by first | assumption | omega | (constructor <;> omega) | (simp only [Int.toNat_natCast]; omega) | exact b2_in _) (by first | assumption | omega | (constructor <;> omega) | (simp only [Int.toNat_natCast]; omega) | exact b2_in _) (by first | assumption | omega | (constructor <;> omega) | (simp only [Int.toNat_natCast]; omega) | exact b2_in _)) ?_
        try simp only [Int.toNat_natCast, Int.reduceToNat, f1, f2, f3, f4]
        refine AW.ifb_eq (tgt := 133) (pc' := 107) dX11_runFromRow_104 (fun c104 => ?_) (fun c104 => ?_)
        · have nf : ¬ (rfP (h 12 10) (h 49 (0 : Int).toNat) (h 1 4) (h 10 1) (h 6 3) (h (51 + (0 : Int).toNat)) b) := by
            unfold rfP rowP
            simp only [Int.reduceToNat, Nat.reduceAdd, Nat.add_zero] at hw0 hw1 hw2 hw3 hw4 ql c22 ⊢
            simp only [hw0, hw1, hw2, hw3, hw4]
            omega
          refine AW.iconst (pc' := 134) dX11_runFromRow_133 ?_
          refine AW.zret dX11_runFromRow_134 ?_ ?_ (by first | exact Or.inl rfl | exact Or.inr rfl | exact b2_01 _ | assumption | (subst_vars; omega))
          · first | exact congrArg (fun z : Int => (some (vI z) : Option AV)) (b2_t pf) | exact congrArg (fun z : Int => (some (vI z) : Option AV)) (b2_f nf) | exact congrArg (fun z : Int => (some (vI z) : Option AV)) (b2_f (by unfold rfP; omega))
          · first | exact Or.inl ⟨nf, rfl⟩ | exact Or.inr ⟨pf, by subst hw0 hw1 hw2 hw3 hw4; exact s121⟩ | exact Or.inl ⟨by unfold rfP; omega, rfl⟩ | omega
        · by_cases full : 120 ≤ h 12 10
          · skip
            refine AW.aload_n (pc' := 108) dX11_runFromRow_107 rfl ?_
            refine AW.getR (pc' := 111) dX11_runFromRow_108 ly_0 fX11_35 rfl ?_
            refine AW.iload (pc' := 113) dX11_runFromRow_111 rfl ?_
            refine AW.iload (pc' := 115) dX11_runFromRow_113 rfl ?_
            refine AW.iload (pc' := 117) dX11_runFromRow_115 rfl ?_
            refine AW.iload (pc' := 119) dX11_runFromRow_117 rfl ?_
            refine AW.iload (pc' := 121) dX11_runFromRow_119 rfl ?_
            refine AW.invV5 (pc' := 124) dX11_runFromRow_121 mlX11_108 mX7_come ly_12 rfl (c_X7_comeFull (dep := dep - 1) (by first | assumption | omega | (constructor <;> omega) | (simp only [Int.toNat_natCast]; omega) | exact b2_in _) (by first | assumption | omega | (constructor <;> omega) | (simp only [Int.toNat_natCast]; omega) | exact b2_in _) (by first | assumption | omega | (constructor <;> omega) | (simp only [Int.toNat_natCast]; omega) | exact b2_in _) (by first | assumption | omega | (constructor <;> omega) | (simp only [Int.toNat_natCast]; omega) | exact b2_in _) (by first | assumption | omega | (constructor <;> omega) | (simp only [Int.toNat_natCast]; omega) | exact b2_in _) (by first | assumption | omega | (constructor <;> omega) | (simp only [Int.toNat_natCast]; omega) | exact b2_in _)) ?_
            try simp only [Int.toNat_natCast, Int.reduceToNat, f1, f2, f3, f4]
            refine AW.bipush (pc' := 126) dX11_runFromRow_124 (by decide) ?_
            refine AW.icmp_eq (tgt := 133) (pc' := 129) dX11_runFromRow_126 (by first | assumption | omega | (constructor <;> omega) | (simp only [Int.toNat_natCast]; omega) | exact b2_in _) (by first | assumption | omega | (constructor <;> omega) | (simp only [Int.toNat_natCast]; omega) | exact b2_in _) (fun c126 => ?_) (fun c126 => ?_)
            · have nf : ¬ (rfP (h 12 10) (h 49 (0 : Int).toNat) (h 1 4) (h 10 1) (h 6 3) (h (51 + (0 : Int).toNat)) b) := by
                unfold rfP rowP
                simp only [Int.reduceToNat, Nat.reduceAdd, Nat.add_zero] at hw0 hw1 hw2 hw3 hw4 ql c22 ⊢
                simp only [hw0, hw1, hw2, hw3, hw4]
                omega
              refine AW.iconst (pc' := 134) dX11_runFromRow_133 ?_
              refine AW.zret dX11_runFromRow_134 ?_ ?_ (by first | exact Or.inl rfl | exact Or.inr rfl | exact b2_01 _ | assumption | (subst_vars; omega))
              · first | exact congrArg (fun z : Int => (some (vI z) : Option AV)) (b2_t pf) | exact congrArg (fun z : Int => (some (vI z) : Option AV)) (b2_f nf) | exact congrArg (fun z : Int => (some (vI z) : Option AV)) (b2_f (by unfold rfP; omega))
              · first | exact Or.inl ⟨nf, rfl⟩ | exact Or.inr ⟨pf, by subst hw0 hw1 hw2 hw3 hw4; exact s121⟩ | exact Or.inl ⟨by unfold rfP; omega, rfl⟩ | omega
            · have pf : (rfP (h 12 10) (h 49 (0 : Int).toNat) (h 1 4) (h 10 1) (h 6 3) (h (51 + (0 : Int).toNat)) b) := by
                unfold rfP rowP
                simp only [Int.reduceToNat, Nat.reduceAdd, Nat.add_zero] at hw0 hw1 hw2 hw3 hw4 ql c22 ⊢
                simp only [hw0, hw1, hw2, hw3, hw4]
                omega
              refine AW.iconst (pc' := 130) dX11_runFromRow_129 ?_
              refine AW.goto (tgt := 134) dX11_runFromRow_130 ?_
              refine AW.zret dX11_runFromRow_134 ?_ ?_ (by first | exact Or.inl rfl | exact Or.inr rfl | exact b2_01 _ | assumption | (subst_vars; omega))
              · first | exact congrArg (fun z : Int => (some (vI z) : Option AV)) (b2_t pf) | exact congrArg (fun z : Int => (some (vI z) : Option AV)) (b2_f nf) | exact congrArg (fun z : Int => (some (vI z) : Option AV)) (b2_f (by unfold rfP; omega))
              · first | exact Or.inl ⟨nf, rfl⟩ | exact Or.inr ⟨pf, by subst hw0 hw1 hw2 hw3 hw4; exact s121⟩ | exact Or.inl ⟨by unfold rfP; omega, rfl⟩ | omega
          · skip
            refine AW.aload_n (pc' := 108) dX11_runFromRow_107 rfl ?_
            refine AW.getR (pc' := 111) dX11_runFromRow_108 ly_0 fX11_35 rfl ?_
            refine AW.iload (pc' := 113) dX11_runFromRow_111 rfl ?_
            refine AW.iload (pc' := 115) dX11_runFromRow_113 rfl ?_
            refine AW.iload (pc' := 117) dX11_runFromRow_115 rfl ?_
            refine AW.iload (pc' := 119) dX11_runFromRow_117 rfl ?_
            refine AW.iload (pc' := 121) dX11_runFromRow_119 rfl ?_
            refine AW.invQ5 (pc' := 124) dX11_runFromRow_121 mlX11_108 mX7_come ly_12 rfl (c_X7_come (dep := dep - 1) (by omega) (by omega) hQ1 hQ2 (by first | assumption | omega | (constructor <;> omega) | (simp only [Int.toNat_natCast]; omega) | exact b2_in _) (by first | assumption | omega | (constructor <;> omega) | (simp only [Int.toNat_natCast]; omega) | exact b2_in _) (by first | assumption | omega | (constructor <;> omega) | (simp only [Int.toNat_natCast]; omega) | exact b2_in _) (by first | assumption | omega | (constructor <;> omega) | (simp only [Int.toNat_natCast]; omega) | exact b2_in _) (by first | assumption | omega | (constructor <;> omega) | (simp only [Int.toNat_natCast]; omega) | exact b2_in _)) (fun h121 s121 => ?_)
            try simp only [Int.toNat_natCast, Int.reduceToNat, f1, f2, f3, f4]
            refine AW.bipush (pc' := 126) dX11_runFromRow_124 (by decide) ?_
            refine AW.icmp_eq (tgt := 133) (pc' := 129) dX11_runFromRow_126 (by first | assumption | omega | (constructor <;> omega) | (simp only [Int.toNat_natCast]; omega) | exact b2_in _) (by first | assumption | omega | (constructor <;> omega) | (simp only [Int.toNat_natCast]; omega) | exact b2_in _) (fun c126 => ?_) (fun c126 => ?_)
            · have nf : ¬ (rfP (h 12 10) (h 49 (0 : Int).toNat) (h 1 4) (h 10 1) (h 6 3) (h (51 + (0 : Int).toNat)) b) := by
                unfold rfP rowP
                simp only [Int.reduceToNat, Nat.reduceAdd, Nat.add_zero] at hw0 hw1 hw2 hw3 hw4 ql c22 ⊢
                simp only [hw0, hw1, hw2, hw3, hw4]
                omega
              refine AW.iconst (pc' := 134) dX11_runFromRow_133 ?_
              refine AW.zret dX11_runFromRow_134 ?_ ?_ (by first | exact Or.inl rfl | exact Or.inr rfl | exact b2_01 _ | assumption | (subst_vars; omega))
              · first | exact congrArg (fun z : Int => (some (vI z) : Option AV)) (b2_t pf) | exact congrArg (fun z : Int => (some (vI z) : Option AV)) (b2_f nf) | exact congrArg (fun z : Int => (some (vI z) : Option AV)) (b2_f (by unfold rfP; omega))
              · first | exact Or.inl ⟨nf, rfl⟩ | exact Or.inr ⟨pf, by subst hw0 hw1 hw2 hw3 hw4; exact s121⟩ | exact Or.inl ⟨by unfold rfP; omega, rfl⟩ | omega
            · have pf : (rfP (h 12 10) (h 49 (0 : Int).toNat) (h 1 4) (h 10 1) (h 6 3) (h (51 + (0 : Int).toNat)) b) := by
                unfold rfP rowP
                simp only [Int.reduceToNat, Nat.reduceAdd, Nat.add_zero] at hw0 hw1 hw2 hw3 hw4 ql c22 ⊢
                simp only [hw0, hw1, hw2, hw3, hw4]
                omega
              refine AW.iconst (pc' := 130) dX11_runFromRow_129 ?_
              refine AW.goto (tgt := 134) dX11_runFromRow_130 ?_
              refine AW.zret dX11_runFromRow_134 ?_ ?_ (by first | exact Or.inl rfl | exact Or.inr rfl | exact b2_01 _ | assumption | (subst_vars; omega))
              · first | exact congrArg (fun z : Int => (some (vI z) : Option AV)) (b2_t pf) | exact congrArg (fun z : Int => (some (vI z) : Option AV)) (b2_f nf) | exact congrArg (fun z : Int => (some (vI z) : Option AV)) (b2_f (by unfold rfP; omega))
              · first | exact Or.inl ⟨nf, rfl⟩ | exact Or.inr ⟨pf, by subst hw0 hw1 hw2 hw3 hw4; exact s121⟩ | exact Or.inl ⟨by unfold rfP; omega, rfl⟩ | omega
      by_cases v35_1 : a = 1
      · subst v35_1
        refine AW.aaldL (t := 52) (pc' := 36) dX11_runFromRow_35 ly_50 (by decide) (by decide) (by decide) rfl ?_
        refine AW.astore4 (pc' := 38) dX11_runFromRow_36 (by decide) rfl ?_
        have f1 : (b + 1).toNat = b.toNat + 1 := by omega
        have f2 : (b + 2).toNat = b.toNat + 2 := by omega
        have f3 : (b + 3).toNat = b.toNat + 3 := by omega
        have f4 : (b + 4).toNat = b.toNat + 4 := by omega
        refine AW.lload_n (pc' := 39) dX11_runFromRow_38 rfl ?_
        refine AW.l2i (pc' := 40) dX11_runFromRow_39 ?_
        refine AW.istore5 (pc' := 42) dX11_runFromRow_40 (by decide) rfl ?_
        refine AW.aload (pc' := 44) dX11_runFromRow_42 rfl ?_
        refine AW.iload (pc' := 46) dX11_runFromRow_44 rfl ?_
        first | refine AW.laldN (pc' := 47) dX11_runFromRow_46 ly_52 (by first | assumption | omega | (constructor <;> omega) | (simp only [Int.toNat_natCast]; omega) | exact b2_in _) (by decide) (fun r46 => ?_) | refine AW.lald (pc' := 47) dX11_runFromRow_46 ly_52 (by first | assumption | omega | (constructor <;> omega) | (simp only [Int.toNat_natCast]; omega) | exact b2_in _) (by first | assumption | omega | (constructor <;> omega) | (simp only [Int.toNat_natCast]; omega) | exact b2_in _) (by decide) (fun r46 => ?_)
        try simp only [Int.reduceToNat, f1, f2, f3, f4] at r46 ⊢
        refine AW.l2i (pc' := 48) dX11_runFromRow_47 ?_
        refine AW.cong (b := wr (h (51 + 1) (b.toNat))) (wr_of _) ?_
        have i0 := wr_in (h (51 + 1) (b.toNat))
        generalize hw0 : wr (h (51 + 1) (b.toNat)) = w0 at i0 ⊢
        refine AW.istore6 (pc' := 50) dX11_runFromRow_48 (by decide) rfl ?_
        refine AW.aload (pc' := 52) dX11_runFromRow_50 rfl ?_
        refine AW.iload (pc' := 54) dX11_runFromRow_52 rfl ?_
        refine AW.iconst (pc' := 55) dX11_runFromRow_54 ?_
        refine AW.iadd (pc' := 56) dX11_runFromRow_55 ?_
        first | refine AW.laldN (pc' := 57) dX11_runFromRow_56 ly_52 (by first | assumption | omega | (constructor <;> omega) | (simp only [Int.toNat_natCast]; omega) | exact b2_in _) (by decide) (fun r56 => ?_) | refine AW.lald (pc' := 57) dX11_runFromRow_56 ly_52 (by first | assumption | omega | (constructor <;> omega) | (simp only [Int.toNat_natCast]; omega) | exact b2_in _) (by first | assumption | omega | (constructor <;> omega) | (simp only [Int.toNat_natCast]; omega) | exact b2_in _) (by decide) (fun r56 => ?_)
        try simp only [Int.reduceToNat, f1, f2, f3, f4] at r56 ⊢
        refine AW.l2i (pc' := 58) dX11_runFromRow_57 ?_
        refine AW.cong (b := wr (h (51 + 1) (b.toNat + 1))) (wr_of _) ?_
        have i1 := wr_in (h (51 + 1) (b.toNat + 1))
        generalize hw1 : wr (h (51 + 1) (b.toNat + 1)) = w1 at i1 ⊢
        refine AW.istore7 (pc' := 60) dX11_runFromRow_58 (by decide) rfl ?_
        refine AW.aload (pc' := 62) dX11_runFromRow_60 rfl ?_
        refine AW.iload (pc' := 64) dX11_runFromRow_62 rfl ?_
        refine AW.iconst (pc' := 65) dX11_runFromRow_64 ?_
        refine AW.iadd (pc' := 66) dX11_runFromRow_65 ?_
        first | refine AW.laldN (pc' := 67) dX11_runFromRow_66 ly_52 (by first | assumption | omega | (constructor <;> omega) | (simp only [Int.toNat_natCast]; omega) | exact b2_in _) (by decide) (fun r66 => ?_) | refine AW.lald (pc' := 67) dX11_runFromRow_66 ly_52 (by first | assumption | omega | (constructor <;> omega) | (simp only [Int.toNat_natCast]; omega) | exact b2_in _) (by first | assumption | omega | (constructor <;> omega) | (simp only [Int.toNat_natCast]; omega) | exact b2_in _) (by decide) (fun r66 => ?_)
        try simp only [Int.reduceToNat, f1, f2, f3, f4] at r66 ⊢
        refine AW.l2i (pc' := 68) dX11_runFromRow_67 ?_
        refine AW.cong (b := wr (h (51 + 1) (b.toNat + 2))) (wr_of _) ?_
        have i2 := wr_in (h (51 + 1) (b.toNat + 2))
        generalize hw2 : wr (h (51 + 1) (b.toNat + 2)) = w2 at i2 ⊢
        refine AW.istore8 (pc' := 70) dX11_runFromRow_68 (by decide) rfl ?_
        refine AW.aload (pc' := 72) dX11_runFromRow_70 rfl ?_
        refine AW.iload (pc' := 74) dX11_runFromRow_72 rfl ?_
        refine AW.iconst (pc' := 75) dX11_runFromRow_74 ?_
        refine AW.iadd (pc' := 76) dX11_runFromRow_75 ?_
        first | refine AW.laldN (pc' := 77) dX11_runFromRow_76 ly_52 (by first | assumption | omega | (constructor <;> omega) | (simp only [Int.toNat_natCast]; omega) | exact b2_in _) (by decide) (fun r76 => ?_) | refine AW.lald (pc' := 77) dX11_runFromRow_76 ly_52 (by first | assumption | omega | (constructor <;> omega) | (simp only [Int.toNat_natCast]; omega) | exact b2_in _) (by first | assumption | omega | (constructor <;> omega) | (simp only [Int.toNat_natCast]; omega) | exact b2_in _) (by decide) (fun r76 => ?_)
        try simp only [Int.reduceToNat, f1, f2, f3, f4] at r76 ⊢
        refine AW.l2i (pc' := 78) dX11_runFromRow_77 ?_
        refine AW.cong (b := wr (h (51 + 1) (b.toNat + 3))) (wr_of _) ?_
        have i3 := wr_in (h (51 + 1) (b.toNat + 3))
        generalize hw3 : wr (h (51 + 1) (b.toNat + 3)) = w3 at i3 ⊢
        refine AW.istore9 (pc' := 80) dX11_runFromRow_78 (by decide) rfl ?_
        refine AW.aload (pc' := 82) dX11_runFromRow_80 rfl ?_
        refine AW.iload (pc' := 84) dX11_runFromRow_82 rfl ?_
        refine AW.iconst (pc' := 85) dX11_runFromRow_84 ?_
        refine AW.iadd (pc' := 86) dX11_runFromRow_85 ?_
        first | refine AW.laldN (pc' := 87) dX11_runFromRow_86 ly_52 (by first | assumption | omega | (constructor <;> omega) | (simp only [Int.toNat_natCast]; omega) | exact b2_in _) (by decide) (fun r86 => ?_) | refine AW.lald (pc' := 87) dX11_runFromRow_86 ly_52 (by first | assumption | omega | (constructor <;> omega) | (simp only [Int.toNat_natCast]; omega) | exact b2_in _) (by first | assumption | omega | (constructor <;> omega) | (simp only [Int.toNat_natCast]; omega) | exact b2_in _) (by decide) (fun r86 => ?_)
        try simp only [Int.reduceToNat, f1, f2, f3, f4] at r86 ⊢
        refine AW.l2i (pc' := 88) dX11_runFromRow_87 ?_
        refine AW.cong (b := wr (h (51 + 1) (b.toNat + 4))) (wr_of _) ?_
        have i4 := wr_in (h (51 + 1) (b.toNat + 4))
        generalize hw4 : wr (h (51 + 1) (b.toNat + 4)) = w4 at i4 ⊢
        refine AW.istore10 (pc' := 90) dX11_runFromRow_88 (by decide) rfl ?_
        refine AW.aload_n (pc' := 91) dX11_runFromRow_90 rfl ?_
        refine AW.iload (pc' := 93) dX11_runFromRow_91 rfl ?_
        refine AW.iload (pc' := 95) dX11_runFromRow_93 rfl ?_
        refine AW.iload (pc' := 97) dX11_runFromRow_95 rfl ?_
        refine AW.iload (pc' := 99) dX11_runFromRow_97 rfl ?_
        refine AW.iload (pc' := 101) dX11_runFromRow_99 rfl ?_
        refine AW.invV5 (pc' := 104) dX11_runFromRow_101 mlX11_104 mX11_isRun ly_0 rfl (c_X11_isRun (dep := dep - 1) (by first | assumption | omega | (constructor <;> omega) | (simp only [Int.toNat_natCast]; omega) | exact b2_in _) (by first | assumption | omega | (constructor <;> omega) | (simp only [Int.toNat_natCast]; omega) | exact b2_in _) (by first | assumption | omega | (constructor <;> omega) | (simp only [Int.toNat_natCast]; omega) | exact b2_in _) (by first | assumption | omega | (constructor <;> omega) | (simp only [Int.toNat_natCast]; omega) | exact b2_in _) (by first | assumption | omega | (constructor <;> omega) | (simp only [Int.toNat_natCast]; omega) | exact b2_in _) (by first | assumption | omega | (constructor <;> omega) | (simp only [Int.toNat_natCast]; omega) | exact b2_in _)) ?_
        try simp only [Int.toNat_natCast, Int.reduceToNat, f1, f2, f3, f4]
        refine AW.ifb_eq (tgt := 133) (pc' := 107) dX11_runFromRow_104 (fun c104 => ?_) (fun c104 => ?_)
        · have nf : ¬ (rfP (h 12 10) (h 49 (1 : Int).toNat) (h 1 4) (h 10 1) (h 6 3) (h (51 + (1 : Int).toNat)) b) := by
            unfold rfP rowP
            simp only [Int.reduceToNat, Nat.reduceAdd, Nat.add_zero] at hw0 hw1 hw2 hw3 hw4 ql c22 ⊢
            simp only [hw0, hw1, hw2, hw3, hw4]
            omega
          refine AW.iconst (pc' := 134) dX11_runFromRow_133 ?_
          refine AW.zret dX11_runFromRow_134 ?_ ?_ (by first | exact Or.inl rfl | exact Or.inr rfl | exact b2_01 _ | assumption | (subst_vars; omega))
          · first | exact congrArg (fun z : Int => (some (vI z) : Option AV)) (b2_t pf) | exact congrArg (fun z : Int => (some (vI z) : Option AV)) (b2_f nf) | exact congrArg (fun z : Int => (some (vI z) : Option AV)) (b2_f (by unfold rfP; omega))
          · first | exact Or.inl ⟨nf, rfl⟩ | exact Or.inr ⟨pf, by subst hw0 hw1 hw2 hw3 hw4; exact s121⟩ | exact Or.inl ⟨by unfold rfP; omega, rfl⟩ | omega
        · by_cases full : 120 ≤ h 12 10
          · skip
            refine AW.aload_n (pc' := 108) dX11_runFromRow_107 rfl ?_
            refine AW.getR (pc' := 111) dX11_runFromRow_108 ly_0 fX11_35 rfl ?_
            refine AW.iload (pc' := 113) dX11_runFromRow_111 rfl ?_
            refine AW.iload (pc' := 115) dX11_runFromRow_113 rfl ?_
            refine AW.iload (pc' := 117) dX11_runFromRow_115 rfl ?_
            refine AW.iload (pc' := 119) dX11_runFromRow_117 rfl ?_
            refine AW.iload (pc' := 121) dX11_runFromRow_119 rfl ?_
            refine AW.invV5 (pc' := 124) dX11_runFromRow_121 mlX11_108 mX7_come ly_12 rfl (c_X7_comeFull (dep := dep - 1) (by first | assumption | omega | (constructor <;> omega) | (simp only [Int.toNat_natCast]; omega) | exact b2_in _) (by first | assumption | omega | (constructor <;> omega) | (simp only [Int.toNat_natCast]; omega) | exact b2_in _) (by first | assumption | omega | (constructor <;> omega) | (simp only [Int.toNat_natCast]; omega) | exact b2_in _) (by first | assumption | omega | (constructor <;> omega) | (simp only [Int.toNat_natCast]; omega) | exact b2_in _) (by first | assumption | omega | (constructor <;> omega) | (simp only [Int.toNat_natCast]; omega) | exact b2_in _) (by first | assumption | omega | (constructor <;> omega) | (simp only [Int.toNat_natCast]; omega) | exact b2_in _)) ?_
            try simp only [Int.toNat_natCast, Int.reduceToNat, f1, f2, f3, f4]
            refine AW.bipush (pc' := 126) dX11_runFromRow_124 (by decide) ?_
            refine AW.icmp_eq (tgt := 133) (pc' := 129) dX11_runFromRow_126 (by first | assumption | omega | (constructor <;> omega) | (simp only [Int.toNat_natCast]; omega) | exact b2_in _) (by first | assumption | omega | (constructor <;> omega) | (simp only [Int.toNat_natCast]; omega) | exact b2_in _) (fun c126 => ?_) (fun c126 => ?_)
            · have nf : ¬ (rfP (h 12 10) (h 49 (1 : Int).toNat) (h 1 4) (h 10 1) (h 6 3) (h (51 + (1 : Int).toNat)) b) := by
                unfold rfP rowP
                simp only [Int.reduceToNat, Nat.reduceAdd, Nat.add_zero] at hw0 hw1 hw2 hw3 hw4 ql c22 ⊢
                simp only [hw0, hw1, hw2, hw3, hw4]
                omega
              refine AW.iconst (pc' := 134) dX11_runFromRow_133 ?_
              refine AW.zret dX11_runFromRow_134 ?_ ?_ (by first | exact Or.inl rfl | exact Or.inr rfl | exact b2_01 _ | assumption | (subst_vars; omega))
              · first | exact congrArg (fun z : Int => (some (vI z) : Option AV)) (b2_t pf) | exact congrArg (fun z : Int => (some (vI z) : Option AV)) (b2_f nf) | exact congrArg (fun z : Int => (some (vI z) : Option AV)) (b2_f (by unfold rfP; omega))
              · first | exact Or.inl ⟨nf, rfl⟩ | exact Or.inr ⟨pf, by subst hw0 hw1 hw2 hw3 hw4; exact s121⟩ | exact Or.inl ⟨by unfold rfP; omega, rfl⟩ | omega
            · have pf : (rfP (h 12 10) (h 49 (1 : Int).toNat) (h 1 4) (h 10 1) (h 6 3) (h (51 + (1 : Int).toNat)) b) := by
                unfold rfP rowP
                simp only [Int.reduceToNat, Nat.reduceAdd, Nat.add_zero] at hw0 hw1 hw2 hw3 hw4 ql c22 ⊢
                simp only [hw0, hw1, hw2, hw3, hw4]
                omega
              refine AW.iconst (pc' := 130) dX11_runFromRow_129 ?_
              refine AW.goto (tgt := 134) dX11_runFromRow_130 ?_
              refine AW.zret dX11_runFromRow_134 ?_ ?_ (by first | exact Or.inl rfl | exact Or.inr rfl | exact b2_01 _ | assumption | (subst_vars; omega))
              · first | exact congrArg (fun z : Int => (some (vI z) : Option AV)) (b2_t pf) | exact congrArg (fun z : Int => (some (vI z) : Option AV)) (b2_f nf) | exact congrArg (fun z : Int => (some (vI z) : Option AV)) (b2_f (by unfold rfP; omega))
              · first | exact Or.inl ⟨nf, rfl⟩ | exact Or.inr ⟨pf, by subst hw0 hw1 hw2 hw3 hw4; exact s121⟩ | exact Or.inl ⟨by unfold rfP; omega, rfl⟩ | omega
          · skip
            refine AW.aload_n (pc' := 108) dX11_runFromRow_107 rfl ?_
            refine AW.getR (pc' := 111) dX11_runFromRow_108 ly_0 fX11_35 rfl ?_
            refine AW.iload (pc' := 113) dX11_runFromRow_111 rfl ?_
            refine AW.iload (pc' := 115) dX11_runFromRow_113 rfl ?_
            refine AW.iload (pc' := 117) dX11_runFromRow_115 rfl ?_
            refine AW.iload (pc' := 119) dX11_runFromRow_117 rfl ?_
            refine AW.iload (pc' := 121) dX11_runFromRow_119 rfl ?_
            refine AW.invQ5 (pc' := 124) dX11_runFromRow_121 mlX11_108 mX7_come ly_12 rfl (c_X7_come (dep := dep - 1) (by omega) (by omega) hQ1 hQ2 (by first | assumption | omega | (constructor <;> omega) | (simp only [Int.toNat_natCast]; omega) | exact b2_in _) (by first | assumption | omega | (constructor <;> omega) | (simp only [Int.toNat_natCast]; omega) | exact b2_in _) (by first | assumption | omega | (constructor <;> omega) | (simp only [Int.toNat_natCast]; omega) | exact b2_in _) (by first | assumption | omega | (constructor <;> omega) | (simp only [Int.toNat_natCast]; omega) | exact b2_in _) (by first | assumption | omega | (constructor <;> omega) | (simp only [Int.toNat_natCast]; omega) | exact b2_in _)) (fun h121 s121 => ?_)
            try simp only [Int.toNat_natCast, Int.reduceToNat, f1, f2, f3, f4]
            refine AW.bipush (pc' := 126) dX11_runFromRow_124 (by decide) ?_
            refine AW.icmp_eq (tgt := 133) (pc' := 129) dX11_runFromRow_126 (by first | assumption | omega | (constructor <;> omega) | (simp only [Int.toNat_natCast]; omega) | exact b2_in _) (by first | assumption | omega | (constructor <;> omega) | (simp only [Int.toNat_natCast]; omega) | exact b2_in _) (fun c126 => ?_) (fun c126 => ?_)
            · have nf : ¬ (rfP (h 12 10) (h 49 (1 : Int).toNat) (h 1 4) (h 10 1) (h 6 3) (h (51 + (1 : Int).toNat)) b) := by
                unfold rfP rowP
                simp only [Int.reduceToNat, Nat.reduceAdd, Nat.add_zero] at hw0 hw1 hw2 hw3 hw4 ql c22 ⊢
                simp only [hw0, hw1, hw2, hw3, hw4]
                omega
              refine AW.iconst (pc' := 134) dX11_runFromRow_133 ?_
              refine AW.zret dX11_runFromRow_134 ?_ ?_ (by first | exact Or.inl rfl | exact Or.inr rfl | exact b2_01 _ | assumption | (subst_vars; omega))
              · first | exact congrArg (fun z : Int => (some (vI z) : Option AV)) (b2_t pf) | exact congrArg (fun z : Int => (some (vI z) : Option AV)) (b2_f nf) | exact congrArg (fun z : Int => (some (vI z) : Option AV)) (b2_f (by unfold rfP; omega))
              · first | exact Or.inl ⟨nf, rfl⟩ | exact Or.inr ⟨pf, by subst hw0 hw1 hw2 hw3 hw4; exact s121⟩ | exact Or.inl ⟨by unfold rfP; omega, rfl⟩ | omega
            · have pf : (rfP (h 12 10) (h 49 (1 : Int).toNat) (h 1 4) (h 10 1) (h 6 3) (h (51 + (1 : Int).toNat)) b) := by
                unfold rfP rowP
                simp only [Int.reduceToNat, Nat.reduceAdd, Nat.add_zero] at hw0 hw1 hw2 hw3 hw4 ql c22 ⊢
                simp only [hw0, hw1, hw2, hw3, hw4]
                omega
              refine AW.iconst (pc' := 130) dX11_runFromRow_129 ?_
              refine AW.goto (tgt := 134) dX11_runFromRow_130 ?_
              refine AW.zret dX11_runFromRow_134 ?_ ?_ (by first | exact Or.inl rfl | exact Or.inr rfl | exact b2_01 _ | assumption | (subst_vars; omega))
              · first | exact congrArg (fun z : Int => (some (vI z) : Option AV)) (b2_t pf) | exact congrArg (fun z : Int => (some (vI z) : Option AV)) (b2_f nf) | exact congrArg (fun z : Int => (some (vI z) : Option AV)) (b2_f (by unfold rfP; omega))
              · first | exact Or.inl ⟨nf, rfl⟩ | exact Or.inr ⟨pf, by subst hw0 hw1 hw2 hw3 hw4; exact s121⟩ | exact Or.inl ⟨by unfold rfP; omega, rfl⟩ | omega
      by_cases v35_2 : a = 2
      · subst v35_2
        refine AW.aaldL (t := 53) (pc' := 36) dX11_runFromRow_35 ly_50 (by decide) (by decide) (by decide) rfl ?_
        refine AW.astore4 (pc' := 38) dX11_runFromRow_36 (by decide) rfl ?_
        have f1 : (b + 1).toNat = b.toNat + 1 := by omega
        have f2 : (b + 2).toNat = b.toNat + 2 := by omega
        have f3 : (b + 3).toNat = b.toNat + 3 := by omega
        have f4 : (b + 4).toNat = b.toNat + 4 := by omega
        refine AW.lload_n (pc' := 39) dX11_runFromRow_38 rfl ?_
        refine AW.l2i (pc' := 40) dX11_runFromRow_39 ?_
        refine AW.istore5 (pc' := 42) dX11_runFromRow_40 (by decide) rfl ?_
        refine AW.aload (pc' := 44) dX11_runFromRow_42 rfl ?_
        refine AW.iload (pc' := 46) dX11_runFromRow_44 rfl ?_
        first | refine AW.laldN (pc' := 47) dX11_runFromRow_46 ly_53 (by first | assumption | omega | (constructor <;> omega) | (simp only [Int.toNat_natCast]; omega) | exact b2_in _) (by decide) (fun r46 => ?_) | refine AW.lald (pc' := 47) dX11_runFromRow_46 ly_53 (by first | assumption | omega | (constructor <;> omega) | (simp only [Int.toNat_natCast]; omega) | exact b2_in _) (by first | assumption | omega | (constructor <;> omega) | (simp only [Int.toNat_natCast]; omega) | exact b2_in _) (by decide) (fun r46 => ?_)
        try simp only [Int.reduceToNat, f1, f2, f3, f4] at r46 ⊢
        refine AW.l2i (pc' := 48) dX11_runFromRow_47 ?_
        refine AW.cong (b := wr (h (51 + 2) (b.toNat))) (wr_of _) ?_
        have i0 := wr_in (h (51 + 2) (b.toNat))
        generalize hw0 : wr (h (51 + 2) (b.toNat)) = w0 at i0 ⊢
        refine AW.istore6 (pc' := 50) dX11_runFromRow_48 (by decide) rfl ?_
        refine AW.aload (pc' := 52) dX11_runFromRow_50 rfl ?_
        refine AW.iload (pc' := 54) dX11_runFromRow_52 rfl ?_
        refine AW.iconst (pc' := 55) dX11_runFromRow_54 ?_
        refine AW.iadd (pc' := 56) dX11_runFromRow_55 ?_
        first | refine AW.laldN (pc' := 57) dX11_runFromRow_56 ly_53 (by first | assumption | omega | (constructor <;> omega) | (simp only [Int.toNat_natCast]; omega) | exact b2_in _) (by decide) (fun r56 => ?_) | refine AW.lald (pc' := 57) dX11_runFromRow_56 ly_53 (by first | assumption | omega | (constructor <;> omega) | (simp only [Int.toNat_natCast]; omega) | exact b2_in _) (by first | assumption | omega | (constructor <;> omega) | (simp only [Int.toNat_natCast]; omega) | exact b2_in _) (by decide) (fun r56 => ?_)
        try simp only [Int.reduceToNat, f1, f2, f3, f4] at r56 ⊢
        refine AW.l2i (pc' := 58) dX11_runFromRow_57 ?_
        refine AW.cong (b := wr (h (51 + 2) (b.toNat + 1))) (wr_of _) ?_
        have i1 := wr_in (h (51 + 2) (b.toNat + 1))
        generalize hw1 : wr (h (51 + 2) (b.toNat + 1)) = w1 at i1 ⊢
        refine AW.istore7 (pc' := 60) dX11_runFromRow_58 (by decide) rfl ?_
        refine AW.aload (pc' := 62) dX11_runFromRow_60 rfl ?_
        refine AW.iload (pc' := 64) dX11_runFromRow_62 rfl ?_
        refine AW.iconst (pc' := 65) dX11_runFromRow_64 ?_
        refine AW.iadd (pc' := 66) dX11_runFromRow_65 ?_
        first | refine AW.laldN (pc' := 67) dX11_runFromRow_66 ly_53 (by first | assumption | omega | (constructor <;> omega) | (simp only [Int.toNat_natCast]; omega) | exact b2_in _) (by decide) (fun r66 => ?_) | refine AW.lald (pc' := 67) dX11_runFromRow_66 ly_53 (by first | assumption | omega | (constructor <;> omega) | (simp only [Int.toNat_natCast]; omega) | exact b2_in _) (by first | assumption | omega | (constructor <;> omega) | (simp only [Int.toNat_natCast]; omega) | exact b2_in _) (by decide) (fun r66 => ?_)
        try simp only [Int.reduceToNat, f1, f2, f3, f4] at r66 ⊢
        refine AW.l2i (pc' := 68) dX11_runFromRow_67 ?_
        refine AW.cong (b := wr (h (51 + 2) (b.toNat + 2))) (wr_of _) ?_
        have i2 := wr_in (h (51 + 2) (b.toNat + 2))
        generalize hw2 : wr (h (51 + 2) (b.toNat + 2)) = w2 at i2 ⊢
        refine AW.istore8 (pc' := 70) dX11_runFromRow_68 (by decide) rfl ?_
        refine AW.aload (pc' := 72) dX11_runFromRow_70 rfl ?_
        refine AW.iload (pc' := 74) dX11_runFromRow_72 rfl ?_
        refine AW.iconst (pc' := 75) dX11_runFromRow_74 ?_
        refine AW.iadd (pc' := 76) dX11_runFromRow_75 ?_
        first | refine AW.laldN (pc' := 77) dX11_runFromRow_76 ly_53 (by first | assumption | omega | (constructor <;> omega) | (simp only [Int.toNat_natCast]; omega) | exact b2_in _) (by decide) (fun r76 => ?_) | refine AW.lald (pc' := 77) dX11_runFromRow_76 ly_53 (by first | assumption | omega | (constructor <;> omega) | (simp only [Int.toNat_natCast]; omega) | exact b2_in _) (by first | assumption | omega | (constructor <;> omega) | (simp only [Int.toNat_natCast]; omega) | exact b2_in _) (by decide) (fun r76 => ?_)
        try simp only [Int.reduceToNat, f1, f2, f3, f4] at r76 ⊢
        refine AW.l2i (pc' := 78) dX11_runFromRow_77 ?_
        refine AW.cong (b := wr (h (51 + 2) (b.toNat + 3))) (wr_of _) ?_
        have i3 := wr_in (h (51 + 2) (b.toNat + 3))
        generalize hw3 : wr (h (51 + 2) (b.toNat + 3)) = w3 at i3 ⊢
        refine AW.istore9 (pc' := 80) dX11_runFromRow_78 (by decide) rfl ?_
        refine AW.aload (pc' := 82) dX11_runFromRow_80 rfl ?_
        refine AW.iload (pc' := 84) dX11_runFromRow_82 rfl ?_
        refine AW.iconst (pc' := 85) dX11_runFromRow_84 ?_
        refine AW.iadd (pc' := 86) dX11_runFromRow_85 ?_
        first | refine AW.laldN (pc' := 87) dX11_runFromRow_86 ly_53 (by first | assumption | omega | (constructor <;> omega) | (simp only [Int.toNat_natCast]; omega) | exact b2_in _) (by decide) (fun r86 => ?_) | refine AW.lald (pc' := 87) dX11_runFromRow_86 ly_53 (by first | assumption | omega | (constructor <;> omega) | (simp only [Int.toNat_natCast]; omega) | exact b2_in _) (by first | assumption | omega | (constructor <;> omega) | (simp only [Int.toNat_natCast]; omega) | exact b2_in _) (by decide) (fun r86 => ?_)
        try simp only [Int.reduceToNat, f1, f2, f3, f4] at r86 ⊢
        refine AW.l2i (pc' := 88) dX11_runFromRow_87 ?_
        refine AW.cong (b := wr (h (51 + 2) (b.toNat + 4))) (wr_of _) ?_
        have i4 := wr_in (h (51 + 2) (b.toNat + 4))
        generalize hw4 : wr (h (51 + 2) (b.toNat + 4)) = w4 at i4 ⊢
        refine AW.istore10 (pc' := 90) dX11_runFromRow_88 (by decide) rfl ?_
        refine AW.aload_n (pc' := 91) dX11_runFromRow_90 rfl ?_
        refine AW.iload (pc' := 93) dX11_runFromRow_91 rfl ?_
        refine AW.iload (pc' := 95) dX11_runFromRow_93 rfl ?_
        refine AW.iload (pc' := 97) dX11_runFromRow_95 rfl ?_
        refine AW.iload (pc' := 99) dX11_runFromRow_97 rfl ?_
        refine AW.iload (pc' := 101) dX11_runFromRow_99 rfl ?_
        refine AW.invV5 (pc' := 104) dX11_runFromRow_101 mlX11_104 mX11_isRun ly_0 rfl (c_X11_isRun (dep := dep - 1) (by first | assumption | omega | (constructor <;> omega) | (simp only [Int.toNat_natCast]; omega) | exact b2_in _) (by first | assumption | omega | (constructor <;> omega) | (simp only [Int.toNat_natCast]; omega) | exact b2_in _) (by first | assumption | omega | (constructor <;> omega) | (simp only [Int.toNat_natCast]; omega) | exact b2_in _) (by first | assumption | omega | (constructor <;> omega) | (simp only [Int.toNat_natCast]; omega) | exact b2_in _) (by first | assumption | omega | (constructor <;> omega) | (simp only [Int.toNat_natCast]; omega) | exact b2_in _) (by first | assumption | omega | (constructor <;> omega) | (simp only [Int.toNat_natCast]; omega) | exact b2_in _)) ?_
        try simp only [Int.toNat_natCast, Int.reduceToNat, f1, f2, f3, f4]
        refine AW.ifb_eq (tgt := 133) (pc' := 107) dX11_runFromRow_104 (fun c104 => ?_) (fun c104 => ?_)
        · have nf : ¬ (rfP (h 12 10) (h 49 (2 : Int).toNat) (h 1 4) (h 10 1) (h 6 3) (h (51 + (2 : Int).toNat)) b) := by
            unfold rfP rowP
            simp only [Int.reduceToNat, Nat.reduceAdd, Nat.add_zero] at hw0 hw1 hw2 hw3 hw4 ql c22 ⊢
            simp only [hw0, hw1, hw2, hw3, hw4]
            omega
          refine AW.iconst (pc' := 134) dX11_runFromRow_133 ?_
          refine AW.zret dX11_runFromRow_134 ?_ ?_ (by first | exact Or.inl rfl | exact Or.inr rfl | exact b2_01 _ | assumption | (subst_vars; omega))
          · first | exact congrArg (fun z : Int => (some (vI z) : Option AV)) (b2_t pf) | exact congrArg (fun z : Int => (some (vI z) : Option AV)) (b2_f nf) | exact congrArg (fun z : Int => (some (vI z) : Option AV)) (b2_f (by unfold rfP; omega))
          · first | exact Or.inl ⟨nf, rfl⟩ | exact Or.inr ⟨pf, by subst hw0 hw1 hw2 hw3 hw4; exact s121⟩ | exact Or.inl ⟨by unfold rfP; omega, rfl⟩ | omega
        · by_cases full : 120 ≤ h 12 10
          · skip
            refine AW.aload_n (pc' := 108) dX11_runFromRow_107 rfl ?_
            refine AW.getR (pc' := 111) dX11_runFromRow_108 ly_0 fX11_35 rfl ?_
            refine AW.iload (pc' := 113) dX11_runFromRow_111 rfl ?_
            refine AW.iload (pc' := 115) dX11_runFromRow_113 rfl ?_
            refine AW.iload (pc' := 117) dX11_runFromRow_115 rfl ?_
            refine AW.iload (pc' := 119) dX11_runFromRow_117 rfl ?_
            refine AW.iload (pc' := 121) dX11_runFromRow_119 rfl ?_
            refine AW.invV5 (pc' := 124) dX11_runFromRow_121 mlX11_108 mX7_come ly_12 rfl (c_X7_comeFull (dep := dep - 1) (by first | assumption | omega | (constructor <;> omega) | (simp only [Int.toNat_natCast]; omega) | exact b2_in _) (by first | assumption | omega | (constructor <;> omega) | (simp only [Int.toNat_natCast]; omega) | exact b2_in _) (by first | assumption | omega | (constructor <;> omega) | (simp only [Int.toNat_natCast]; omega) | exact b2_in _) (by first | assumption | omega | (constructor <;> omega) | (simp only [Int.toNat_natCast]; omega) | exact b2_in _) (by first | assumption | omega | (constructor <;> omega) | (simp only [Int.toNat_natCast]; omega) | exact b2_in _) (by first | assumption | omega | (constructor <;> omega) | (simp only [Int.toNat_natCast]; omega) | exact b2_in _)) ?_
            try simp only [Int.toNat_natCast, Int.reduceToNat, f1, f2, f3, f4]
            refine AW.bipush (pc' := 126) dX11_runFromRow_124 (by decide) ?_
            refine AW.icmp_eq (tgt := 133) (pc' := 129) dX11_runFromRow_126 (by first | assumption | omega | (constructor <;> omega) | (simp only [Int.toNat_natCast]; omega) | exact b2_in _) (by first | assumption | omega | (constructor <;> omega) | (simp only [Int.toNat_natCast]; omega) | exact b2_in _) (fun c126 => ?_) (fun c126 => ?_)
            · have nf : ¬ (rfP (h 12 10) (h 49 (2 : Int).toNat) (h 1 4) (h 10 1) (h 6 3) (h (51 + (2 : Int).toNat)) b) := by
                unfold rfP rowP
                simp only [Int.reduceToNat, Nat.reduceAdd, Nat.add_zero] at hw0 hw1 hw2 hw3 hw4 ql c22 ⊢
                simp only [hw0, hw1, hw2, hw3, hw4]
                omega
              refine AW.iconst (pc' := 134) dX11_runFromRow_133 ?_
              refine AW.zret dX11_runFromRow_134 ?_ ?_ (by first | exact Or.inl rfl | exact Or.inr rfl | exact b2_01 _ | assumption | (subst_vars; omega))
              · first | exact congrArg (fun z : Int => (some (vI z) : Option AV)) (b2_t pf) | exact congrArg (fun z : Int => (some (vI z) : Option AV)) (b2_f nf) | exact congrArg (fun z : Int => (some (vI z) : Option AV)) (b2_f (by unfold rfP; omega))
              · first | exact Or.inl ⟨nf, rfl⟩ | exact Or.inr ⟨pf, by subst hw0 hw1 hw2 hw3 hw4; exact s121⟩ | exact Or.inl ⟨by unfold rfP; omega, rfl⟩ | omega
            · have pf : (rfP (h 12 10) (h 49 (2 : Int).toNat) (h 1 4) (h 10 1) (h 6 3) (h (51 + (2 : Int).toNat)) b) := by
                unfold rfP rowP
                simp only [Int.reduceToNat, Nat.reduceAdd, Nat.add_zero] at hw0 hw1 hw2 hw3 hw4 ql c22 ⊢
                simp only [hw0, hw1, hw2, hw3, hw4]
                omega
              refine AW.iconst (pc' := 130) dX11_runFromRow_129 ?_
              refine AW.goto (tgt := 134) dX11_runFromRow_130 ?_
              refine AW.zret dX11_runFromRow_134 ?_ ?_ (by first | exact Or.inl rfl | exact Or.inr rfl | exact b2_01 _ | assumption | (subst_vars; omega))
              · first | exact congrArg (fun z : Int => (some (vI z) : Option AV)) (b2_t pf) | exact congrArg (fun z : Int => (some (vI z) : Option AV)) (b2_f nf) | exact congrArg (fun z : Int => (some (vI z) : Option AV)) (b2_f (by unfold rfP; omega))
              · first | exact Or.inl ⟨nf, rfl⟩ | exact Or.inr ⟨pf, by subst hw0 hw1 hw2 hw3 hw4; exact s121⟩ | exact Or.inl ⟨by unfold rfP; omega, rfl⟩ | omega
          · skip
            refine AW.aload_n (pc' := 108) dX11_runFromRow_107 rfl ?_
            refine AW.getR (pc' := 111) dX11_runFromRow_108 ly_0 fX11_35 rfl ?_
            refine AW.iload (pc' := 113) dX11_runFromRow_111 rfl ?_
            refine AW.iload (pc' := 115) dX11_runFromRow_113 rfl ?_
            refine AW.iload (pc' := 117) dX11_runFromRow_115 rfl ?_
            refine AW.iload (pc' := 119) dX11_runFromRow_117 rfl ?_
            refine AW.iload (pc' := 121) dX11_runFromRow_119 rfl ?_
            refine AW.invQ5 (pc' := 124) dX11_runFromRow_121 mlX11_108 mX7_come ly_12 rfl (c_X7_come (dep := dep - 1) (by omega) (by omega) hQ1 hQ2 (by first | assumption | omega | (constructor <;> omega) | (simp only [Int.toNat_natCast]; omega) | exact b2_in _) (by first | assumption | omega | (constructor <;> omega) | (simp only [Int.toNat_natCast]; omega) | exact b2_in _) (by first | assumption | omega | (constructor <;> omega) | (simp only [Int.toNat_natCast]; omega) | exact b2_in _) (by first | assumption | omega | (constructor <;> omega) | (simp only [Int.toNat_natCast]; omega) | exact b2_in _) (by first | assumption | omega | (constructor <;> omega) | (simp only [Int.toNat_natCast]; omega) | exact b2_in _)) (fun h121 s121 => ?_)
            try simp only [Int.toNat_natCast, Int.reduceToNat, f1, f2, f3, f4]
            refine AW.bipush (pc' := 126) dX11_runFromRow_124 (by decide) ?_
            refine AW.icmp_eq (tgt := 133) (pc' := 129) dX11_runFromRow_126 (by first | assumption | omega | (constructor <;> omega) | (simp only [Int.toNat_natCast]; omega) | exact b2_in _) (by first | assumption | omega | (constructor <;> omega) | (simp only [Int.toNat_natCast]; omega) | exact b2_in _) (fun c126 => ?_) (fun c126 => ?_)
            · have nf : ¬ (rfP (h 12 10) (h 49 (2 : Int).toNat) (h 1 4) (h 10 1) (h 6 3) (h (51 + (2 : Int).toNat)) b) := by
                unfold rfP rowP
                simp only [Int.reduceToNat, Nat.reduceAdd, Nat.add_zero] at hw0 hw1 hw2 hw3 hw4 ql c22 ⊢
                simp only [hw0, hw1, hw2, hw3, hw4]
                omega
              refine AW.iconst (pc' := 134) dX11_runFromRow_133 ?_
              refine AW.zret dX11_runFromRow_134 ?_ ?_ (by first | exact Or.inl rfl | exact Or.inr rfl | exact b2_01 _ | assumption | (subst_vars; omega))
              · first | exact congrArg (fun z : Int => (some (vI z) : Option AV)) (b2_t pf) | exact congrArg (fun z : Int => (some (vI z) : Option AV)) (b2_f nf) | exact congrArg (fun z : Int => (some (vI z) : Option AV)) (b2_f (by unfold rfP; omega))
              · first | exact Or.inl ⟨nf, rfl⟩ | exact Or.inr ⟨pf, by subst hw0 hw1 hw2 hw3 hw4; exact s121⟩ | exact Or.inl ⟨by unfold rfP; omega, rfl⟩ | omega
            · have pf : (rfP (h 12 10) (h 49 (2 : Int).toNat) (h 1 4) (h 10 1) (h 6 3) (h (51 + (2 : Int).toNat)) b) := by
                unfold rfP rowP
                simp only [Int.reduceToNat, Nat.reduceAdd, Nat.add_zero] at hw0 hw1 hw2 hw3 hw4 ql c22 ⊢
                simp only [hw0, hw1, hw2, hw3, hw4]
                omega
              refine AW.iconst (pc' := 130) dX11_runFromRow_129 ?_
              refine AW.goto (tgt := 134) dX11_runFromRow_130 ?_
              refine AW.zret dX11_runFromRow_134 ?_ ?_ (by first | exact Or.inl rfl | exact Or.inr rfl | exact b2_01 _ | assumption | (subst_vars; omega))
              · first | exact congrArg (fun z : Int => (some (vI z) : Option AV)) (b2_t pf) | exact congrArg (fun z : Int => (some (vI z) : Option AV)) (b2_f nf) | exact congrArg (fun z : Int => (some (vI z) : Option AV)) (b2_f (by unfold rfP; omega))
              · first | exact Or.inl ⟨nf, rfl⟩ | exact Or.inr ⟨pf, by subst hw0 hw1 hw2 hw3 hw4; exact s121⟩ | exact Or.inl ⟨by unfold rfP; omega, rfl⟩ | omega
      by_cases v35_3 : a = 3
      · subst v35_3
        refine AW.aaldL (t := 54) (pc' := 36) dX11_runFromRow_35 ly_50 (by decide) (by decide) (by decide) rfl ?_
        refine AW.astore4 (pc' := 38) dX11_runFromRow_36 (by decide) rfl ?_
        have f1 : (b + 1).toNat = b.toNat + 1 := by omega
        have f2 : (b + 2).toNat = b.toNat + 2 := by omega
        have f3 : (b + 3).toNat = b.toNat + 3 := by omega
        have f4 : (b + 4).toNat = b.toNat + 4 := by omega
        refine AW.lload_n (pc' := 39) dX11_runFromRow_38 rfl ?_
        refine AW.l2i (pc' := 40) dX11_runFromRow_39 ?_
        refine AW.istore5 (pc' := 42) dX11_runFromRow_40 (by decide) rfl ?_
        refine AW.aload (pc' := 44) dX11_runFromRow_42 rfl ?_
        refine AW.iload (pc' := 46) dX11_runFromRow_44 rfl ?_
        first | refine AW.laldN (pc' := 47) dX11_runFromRow_46 ly_54 (by first | assumption | omega | (constructor <;> omega) | (simp only [Int.toNat_natCast]; omega) | exact b2_in _) (by decide) (fun r46 => ?_) | refine AW.lald (pc' := 47) dX11_runFromRow_46 ly_54 (by first | assumption | omega | (constructor <;> omega) | (simp only [Int.toNat_natCast]; omega) | exact b2_in _) (by first | assumption | omega | (constructor <;> omega) | (simp only [Int.toNat_natCast]; omega) | exact b2_in _) (by decide) (fun r46 => ?_)
        try simp only [Int.reduceToNat, f1, f2, f3, f4] at r46 ⊢
        refine AW.l2i (pc' := 48) dX11_runFromRow_47 ?_
        refine AW.cong (b := wr (h (51 + 3) (b.toNat))) (wr_of _) ?_
        have i0 := wr_in (h (51 + 3) (b.toNat))
        generalize hw0 : wr (h (51 + 3) (b.toNat)) = w0 at i0 ⊢
        refine AW.istore6 (pc' := 50) dX11_runFromRow_48 (by decide) rfl ?_
        refine AW.aload (pc' := 52) dX11_runFromRow_50 rfl ?_
        refine AW.iload (pc' := 54) dX11_runFromRow_52 rfl ?_
        refine AW.iconst (pc' := 55) dX11_runFromRow_54 ?_
        refine AW.iadd (pc' := 56) dX11_runFromRow_55 ?_
        first | refine AW.laldN (pc' := 57) dX11_runFromRow_56 ly_54 (by first | assumption | omega | (constructor <;> omega) | (simp only [Int.toNat_natCast]; omega) | exact b2_in _) (by decide) (fun r56 => ?_) | refine AW.lald (pc' := 57) dX11_runFromRow_56 ly_54 (by first | assumption | omega | (constructor <;> omega) | (simp only [Int.toNat_natCast]; omega) | exact b2_in _) (by first | assumption | omega | (constructor <;> omega) | (simp only [Int.toNat_natCast]; omega) | exact b2_in _) (by decide) (fun r56 => ?_)
        try simp only [Int.reduceToNat, f1, f2, f3, f4] at r56 ⊢
        refine AW.l2i (pc' := 58) dX11_runFromRow_57 ?_
        refine AW.cong (b := wr (h (51 + 3) (b.toNat + 1))) (wr_of _) ?_
        have i1 := wr_in (h (51 + 3) (b.toNat + 1))
        generalize hw1 : wr (h (51 + 3) (b.toNat + 1)) = w1 at i1 ⊢
        refine AW.istore7 (pc' := 60) dX11_runFromRow_58 (by decide) rfl ?_
        refine AW.aload (pc' := 62) dX11_runFromRow_60 rfl ?_
        refine AW.iload (pc' := 64) dX11_runFromRow_62 rfl ?_
        refine AW.iconst (pc' := 65) dX11_runFromRow_64 ?_
        refine AW.iadd (pc' := 66) dX11_runFromRow_65 ?_
        first | refine AW.laldN (pc' := 67) dX11_runFromRow_66 ly_54 (by first | assumption | omega | (constructor <;> omega) | (simp only [Int.toNat_natCast]; omega) | exact b2_in _) (by decide) (fun r66 => ?_) | refine AW.lald (pc' := 67) dX11_runFromRow_66 ly_54 (by first | assumption | omega | (constructor <;> omega) | (simp only [Int.toNat_natCast]; omega) | exact b2_in _) (by first | assumption | omega | (constructor <;> omega) | (simp only [Int.toNat_natCast]; omega) | exact b2_in _) (by decide) (fun r66 => ?_)
        try simp only [Int.reduceToNat, f1, f2, f3, f4] at r66 ⊢
        refine AW.l2i (pc' := 68) dX11_runFromRow_67 ?_
        refine AW.cong (b := wr (h (51 + 3) (b.toNat + 2))) (wr_of _) ?_
        have i2 := wr_in (h (51 + 3) (b.toNat + 2))
        generalize hw2 : wr (h (51 + 3) (b.toNat + 2)) = w2 at i2 ⊢
        refine AW.istore8 (pc' := 70) dX11_runFromRow_68 (by decide) rfl ?_
        refine AW.aload (pc' := 72) dX11_runFromRow_70 rfl ?_
        refine AW.iload (pc' := 74) dX11_runFromRow_72 rfl ?_
        refine AW.iconst (pc' := 75) dX11_runFromRow_74 ?_
        refine AW.iadd (pc' := 76) dX11_runFromRow_75 ?_
        first | refine AW.laldN (pc' := 77) dX11_runFromRow_76 ly_54 (by first | assumption | omega | (constructor <;> omega) | (simp only [Int.toNat_natCast]; omega) | exact b2_in _) (by decide) (fun r76 => ?_) | refine AW.lald (pc' := 77) dX11_runFromRow_76 ly_54 (by first | assumption | omega | (constructor <;> omega) | (simp only [Int.toNat_natCast]; omega) | exact b2_in _) (by first | assumption | omega | (constructor <;> omega) | (simp only [Int.toNat_natCast]; omega) | exact b2_in _) (by decide) (fun r76 => ?_)
        try simp only [Int.reduceToNat, f1, f2, f3, f4] at r76 ⊢
        refine AW.l2i (pc' := 78) dX11_runFromRow_77 ?_
        refine AW.cong (b := wr (h (51 + 3) (b.toNat + 3))) (wr_of _) ?_
        have i3 := wr_in (h (51 + 3) (b.toNat + 3))
        generalize hw3 : wr (h (51 + 3) (b.toNat + 3)) = w3 at i3 ⊢
        refine AW.istore9 (pc' := 80) dX11_runFromRow_78 (by decide) rfl ?_
        refine AW.aload (pc' := 82) dX11_runFromRow_80 rfl ?_
        refine AW.iload (pc' := 84) dX11_runFromRow_82 rfl ?_
        refine AW.iconst (pc' := 85) dX11_runFromRow_84 ?_
        refine AW.iadd (pc' := 86) dX11_runFromRow_85 ?_
        first | refine AW.laldN (pc' := 87) dX11_runFromRow_86 ly_54 (by first | assumption | omega | (constructor <;> omega) | (simp only [Int.toNat_natCast]; omega) | exact b2_in _) (by decide) (fun r86 => ?_) | refine AW.lald (pc' := 87) dX11_runFromRow_86 ly_54 (by first | assumption | omega | (constructor <;> omega) | (simp only [Int.toNat_natCast]; omega) | exact b2_in _) (by first | assumption | omega | (constructor <;> omega) | (simp only [Int.toNat_natCast]; omega) | exact b2_in _) (by decide) (fun r86 => ?_)
        try simp only [Int.reduceToNat, f1, f2, f3, f4] at r86 ⊢
        refine AW.l2i (pc' := 88) dX11_runFromRow_87 ?_
        refine AW.cong (b := wr (h (51 + 3) (b.toNat + 4))) (wr_of _) ?_
        have i4 := wr_in (h (51 + 3) (b.toNat + 4))
        generalize hw4 : wr (h (51 + 3) (b.toNat + 4)) = w4 at i4 ⊢
        refine AW.istore10 (pc' := 90) dX11_runFromRow_88 (by decide) rfl ?_
        refine AW.aload_n (pc' := 91) dX11_runFromRow_90 rfl ?_
        refine AW.iload (pc' := 93) dX11_runFromRow_91 rfl ?_
        refine AW.iload (pc' := 95) dX11_runFromRow_93 rfl ?_
        refine AW.iload (pc' := 97) dX11_runFromRow_95 rfl ?_
        refine AW.iload (pc' := 99) dX11_runFromRow_97 rfl ?_
        refine AW.iload (pc' := 101) dX11_runFromRow_99 rfl ?_
        refine AW.invV5 (pc' := 104) dX11_runFromRow_101 mlX11_104 mX11_isRun ly_0 rfl (c_X11_isRun (dep := dep - 1) (by first | assumption | omega | (constructor <;> omega) | (simp only [Int.toNat_natCast]; omega) | exact b2_in _) (by first | assumption | omega | (constructor <;> omega) | (simp only [Int.toNat_natCast]; omega) | exact b2_in _) (by first | assumption | omega | (constructor <;> omega) | (simp only [Int.toNat_natCast]; omega) | exact b2_in _) (by first | assumption | omega | (constructor <;> omega) | (simp only [Int.toNat_natCast]; omega) | exact b2_in _) (by first | assumption | omega | (constructor <;> omega) | (simp only [Int.toNat_natCast]; omega) | exact b2_in _) (by first | assumption | omega | (constructor <;> omega) | (simp only [Int.toNat_natCast]; omega) | exact b2_in _)) ?_
        try simp only [Int.toNat_natCast, Int.reduceToNat, f1, f2, f3, f4]
        refine AW.ifb_eq (tgt := 133) (pc' := 107) dX11_runFromRow_104 (fun c104 => ?_) (fun c104 => ?_)
        · have nf : ¬ (rfP (h 12 10) (h 49 (3 : Int).toNat) (h 1 4) (h 10 1) (h 6 3) (h (51 + (3 : Int).toNat)) b) := by
            unfold rfP rowP
            simp only [Int.reduceToNat, Nat.reduceAdd, Nat.add_zero] at hw0 hw1 hw2 hw3 hw4 ql c22 ⊢
            simp only [hw0, hw1, hw2, hw3, hw4]
            omega
          refine AW.iconst (pc' := 134) dX11_runFromRow_133 ?_
          refine AW.zret dX11_runFromRow_134 ?_ ?_ (by first | exact Or.inl rfl | exact Or.inr rfl | exact b2_01 _ | assumption | (subst_vars; omega))
          · first | exact congrArg (fun z : Int => (some (vI z) : Option AV)) (b2_t pf) | exact congrArg (fun z : Int => (some (vI z) : Option AV)) (b2_f nf) | exact congrArg (fun z : Int => (some (vI z) : Option AV)) (b2_f (by unfold rfP; omega))
          · first | exact Or.inl ⟨nf, rfl⟩ | exact Or.inr ⟨pf, by subst hw0 hw1 hw2 hw3 hw4; exact s121⟩ | exact Or.inl ⟨by unfold rfP; omega, rfl⟩ | omega
        · by_cases full : 120 ≤ h 12 10
          · skip
            refine AW.aload_n (pc' := 108) dX11_runFromRow_107 rfl ?_
            refine AW.getR (pc' := 111) dX11_runFromRow_108 ly_0 fX11_35 rfl ?_
            refine AW.iload (pc' := 113) dX11_runFromRow_111 rfl ?_
            refine AW.iload (pc' := 115) dX11_runFromRow_113 rfl ?_
            refine AW.iload (pc' := 117) dX11_runFromRow_115 rfl ?_
            refine AW.iload (pc' := 119) dX11_runFromRow_117 rfl ?_
            refine AW.iload (pc' := 121) dX11_runFromRow_119 rfl ?_
            refine AW.invV5 (pc' := 124) dX11_runFromRow_121 mlX11_108 mX7_come ly_12 rfl (c_X7_comeFull (dep := dep - 1) (by first | assumption | omega | (constructor <;> omega) | (simp only [Int.toNat_natCast]; omega) | exact b2_in _) (by first | assumption | omega | (constructor <;> omega) | (simp only [Int.toNat_natCast]; omega) | exact b2_in _) (by first | assumption | omega | (constructor <;> omega) | (simp only [Int.toNat_natCast]; omega) | exact b2_in _) (by first | assumption | omega | (constructor <;> omega) | (simp only [Int.toNat_natCast]; omega) | exact b2_in _) (by first | assumption | omega | (constructor <;> omega) | (simp only [Int.toNat_natCast]; omega) | exact b2_in _) (by first | assumption | omega | (constructor <;> omega) | (simp only [Int.toNat_natCast]; omega) | exact b2_in _)) ?_
            try simp only [Int.toNat_natCast, Int.reduceToNat, f1, f2, f3, f4]
            refine AW.bipush (pc' := 126) dX11_runFromRow_124 (by decide) ?_
            refine AW.icmp_eq (tgt := 133) (pc' := 129) dX11_runFromRow_126 (by first | assumption | omega | (constructor <;> omega) | (simp only [Int.toNat_natCast]; omega) | exact b2_in _) (by first | assumption | omega | (constructor <;> omega) | (simp only [Int.toNat_natCast]; omega) | exact b2_in _) (fun c126 => ?_) (fun c126 => ?_)
            · have nf : ¬ (rfP (h 12 10) (h 49 (3 : Int).toNat) (h 1 4) (h 10 1) (h 6 3) (h (51 + (3 : Int).toNat)) b) := by
                unfold rfP rowP
                simp only [Int.reduceToNat, Nat.reduceAdd, Nat.add_zero] at hw0 hw1 hw2 hw3 hw4 ql c22 ⊢
                simp only [hw0, hw1, hw2, hw3, hw4]
                omega
              refine AW.iconst (pc' := 134) dX11_runFromRow_133 ?_
              refine AW.zret dX11_runFromRow_134 ?_ ?_ (by first | exact Or.inl rfl | exact Or.inr rfl | exact b2_01 _ | assumption | (subst_vars; omega))
              · first | exact congrArg (fun z : Int => (some (vI z) : Option AV)) (b2_t pf) | exact congrArg (fun z : Int => (some (vI z) : Option AV)) (b2_f nf) | exact congrArg (fun z : Int => (some (vI z) : Option AV)) (b2_f (by unfold rfP; omega))
              · first | exact Or.inl ⟨nf, rfl⟩ | exact Or.inr ⟨pf, by subst hw0 hw1 hw2 hw3 hw4; exact s121⟩ | exact Or.inl ⟨by unfold rfP; omega, rfl⟩ | omega
            · have pf : (rfP (h 12 10) (h 49 (3 : Int).toNat) (h 1 4) (h 10 1) (h 6 3) (h (51 + (3 : Int).toNat)) b) := by
                unfold rfP rowP
                simp only [Int.reduceToNat, Nat.reduceAdd, Nat.add_zero] at hw0 hw1 hw2 hw3 hw4 ql c22 ⊢
                simp only [hw0, hw1, hw2, hw3, hw4]
                omega
              refine AW.iconst (pc' := 130) dX11_runFromRow_129 ?_
              refine AW.goto (tgt := 134) dX11_runFromRow_130 ?_
              refine AW.zret dX11_runFromRow_134 ?_ ?_ (by first | exact Or.inl rfl | exact Or.inr rfl | exact b2_01 _ | assumption | (subst_vars; omega))
              · first | exact congrArg (fun z : Int => (some (vI z) : Option AV)) (b2_t pf) | exact congrArg (fun z : Int => (some (vI z) : Option AV)) (b2_f nf) | exact congrArg (fun z : Int => (some (vI z) : Option AV)) (b2_f (by unfold rfP; omega))
              · first | exact Or.inl ⟨nf, rfl⟩ | exact Or.inr ⟨pf, by subst hw0 hw1 hw2 hw3 hw4; exact s121⟩ | exact Or.inl ⟨by unfold rfP; omega, rfl⟩ | omega
          · skip
            refine AW.aload_n (pc' := 108) dX11_runFromRow_107 rfl ?_
            refine AW.getR (pc' := 111) dX11_runFromRow_108 ly_0 fX11_35 rfl ?_
            refine AW.iload (pc' := 113) dX11_runFromRow_111 rfl ?_
            refine AW.iload (pc' := 115) dX11_runFromRow_113 rfl ?_
            refine AW.iload (pc' := 117) dX11_runFromRow_115 rfl ?_
            refine AW.iload (pc' := 119) dX11_runFromRow_117 rfl ?_
            refine AW.iload (pc' := 121) dX11_runFromRow_119 rfl ?_
            refine AW.invQ5 (pc' := 124) dX11_runFromRow_121 mlX11_108 mX7_come ly_12 rfl (c_X7_come (dep := dep - 1) (by omega) (by omega) hQ1 hQ2 (by first | assumption | omega | (constructor <;> omega) | (simp only [Int.toNat_natCast]; omega) | exact b2_in _) (by first | assumption | omega | (constructor <;> omega) | (simp only [Int.toNat_natCast]; omega) | exact b2_in _) (by first | assumption | omega | (constructor <;> omega) | (simp only [Int.toNat_natCast]; omega) | exact b2_in _) (by first | assumption | omega | (constructor <;> omega) | (simp only [Int.toNat_natCast]; omega) | exact b2_in _) (by first | assumption | omega | (constructor <;> omega) | (simp only [Int.toNat_natCast]; omega) | exact b2_in _)) (fun h121 s121 => ?_)
            try simp only [Int.toNat_natCast, Int.reduceToNat, f1, f2, f3, f4]
            refine AW.bipush (pc' := 126) dX11_runFromRow_124 (by decide) ?_
            refine AW.icmp_eq (tgt := 133) (pc' := 129) dX11_runFromRow_126 (by first | assumption | omega | (constructor <;> omega) | (simp only [Int.toNat_natCast]; omega) | exact b2_in _) (by first | assumption | omega | (constructor <;> omega) | (simp only [Int.toNat_natCast]; omega) | exact b2_in _) (fun c126 => ?_) (fun c126 => ?_)
            · have nf : ¬ (rfP (h 12 10) (h 49 (3 : Int).toNat) (h 1 4) (h 10 1) (h 6 3) (h (51 + (3 : Int).toNat)) b) := by
                unfold rfP rowP
                simp only [Int.reduceToNat, Nat.reduceAdd, Nat.add_zero] at hw0 hw1 hw2 hw3 hw4 ql c22 ⊢
                simp only [hw0, hw1, hw2, hw3, hw4]
                omega
              refine AW.iconst (pc' := 134) dX11_runFromRow_133 ?_
              refine AW.zret dX11_runFromRow_134 ?_ ?_ (by first | exact Or.inl rfl | exact Or.inr rfl | exact b2_01 _ | assumption | (subst_vars; omega))
              · first | exact congrArg (fun z : Int => (some (vI z) : Option AV)) (b2_t pf) | exact congrArg (fun z : Int => (some (vI z) : Option AV)) (b2_f nf) | exact congrArg (fun z : Int => (some (vI z) : Option AV)) (b2_f (by unfold rfP; omega))
              · first | exact Or.inl ⟨nf, rfl⟩ | exact Or.inr ⟨pf, by subst hw0 hw1 hw2 hw3 hw4; exact s121⟩ | exact Or.inl ⟨by unfold rfP; omega, rfl⟩ | omega
            · have pf : (rfP (h 12 10) (h 49 (3 : Int).toNat) (h 1 4) (h 10 1) (h 6 3) (h (51 + (3 : Int).toNat)) b) := by
                unfold rfP rowP
                simp only [Int.reduceToNat, Nat.reduceAdd, Nat.add_zero] at hw0 hw1 hw2 hw3 hw4 ql c22 ⊢
                simp only [hw0, hw1, hw2, hw3, hw4]
                omega
              refine AW.iconst (pc' := 130) dX11_runFromRow_129 ?_
              refine AW.goto (tgt := 134) dX11_runFromRow_130 ?_
              refine AW.zret dX11_runFromRow_134 ?_ ?_ (by first | exact Or.inl rfl | exact Or.inr rfl | exact b2_01 _ | assumption | (subst_vars; omega))
              · first | exact congrArg (fun z : Int => (some (vI z) : Option AV)) (b2_t pf) | exact congrArg (fun z : Int => (some (vI z) : Option AV)) (b2_f nf) | exact congrArg (fun z : Int => (some (vI z) : Option AV)) (b2_f (by unfold rfP; omega))
              · first | exact Or.inl ⟨nf, rfl⟩ | exact Or.inr ⟨pf, by subst hw0 hw1 hw2 hw3 hw4; exact s121⟩ | exact Or.inl ⟨by unfold rfP; omega, rfl⟩ | omega
      by_cases v35_4 : a = 4
      · subst v35_4
        refine AW.aaldL (t := 55) (pc' := 36) dX11_runFromRow_35 ly_50 (by decide) (by decide) (by decide) rfl ?_
        refine AW.astore4 (pc' := 38) dX11_runFromRow_36 (by decide) rfl ?_
        have f1 : (b + 1).toNat = b.toNat + 1 := by omega
        have f2 : (b + 2).toNat = b.toNat + 2 := by omega
        have f3 : (b + 3).toNat = b.toNat + 3 := by omega
        have f4 : (b + 4).toNat = b.toNat + 4 := by omega
        refine AW.lload_n (pc' := 39) dX11_runFromRow_38 rfl ?_
        refine AW.l2i (pc' := 40) dX11_runFromRow_39 ?_
        refine AW.istore5 (pc' := 42) dX11_runFromRow_40 (by decide) rfl ?_
        refine AW.aload (pc' := 44) dX11_runFromRow_42 rfl ?_
        refine AW.iload (pc' := 46) dX11_runFromRow_44 rfl ?_
        first | refine AW.laldN (pc' := 47) dX11_runFromRow_46 ly_55 (by first | assumption | omega | (constructor <;> omega) | (simp only [Int.toNat_natCast]; omega) | exact b2_in _) (by decide) (fun r46 => ?_) | refine AW.lald (pc' := 47) dX11_runFromRow_46 ly_55 (by first | assumption | omega | (constructor <;> omega) | (simp only [Int.toNat_natCast]; omega) | exact b2_in _) (by first | assumption | omega | (constructor <;> omega) | (simp only [Int.toNat_natCast]; omega) | exact b2_in _) (by decide) (fun r46 => ?_)
        try simp only [Int.reduceToNat, f1, f2, f3, f4] at r46 ⊢
        refine AW.l2i (pc' := 48) dX11_runFromRow_47 ?_
        refine AW.cong (b := wr (h (51 + 4) (b.toNat))) (wr_of _) ?_
        have i0 := wr_in (h (51 + 4) (b.toNat))
        generalize hw0 : wr (h (51 + 4) (b.toNat)) = w0 at i0 ⊢
        refine AW.istore6 (pc' := 50) dX11_runFromRow_48 (by decide) rfl ?_
        refine AW.aload (pc' := 52) dX11_runFromRow_50 rfl ?_
        refine AW.iload (pc' := 54) dX11_runFromRow_52 rfl ?_
        refine AW.iconst (pc' := 55) dX11_runFromRow_54 ?_
        refine AW.iadd (pc' := 56) dX11_runFromRow_55 ?_
        first | refine AW.laldN (pc' := 57) dX11_runFromRow_56 ly_55 (by first | assumption | omega | (constructor <;> omega) | (simp only [Int.toNat_natCast]; omega) | exact b2_in _) (by decide) (fun r56 => ?_) | refine AW.lald (pc' := 57) dX11_runFromRow_56 ly_55 (by first | assumption | omega | (constructor <;> omega) | (simp only [Int.toNat_natCast]; omega) | exact b2_in _) (by first | assumption | omega | (constructor <;> omega) | (simp only [Int.toNat_natCast]; omega) | exact b2_in _) (by decide) (fun r56 => ?_)
        try simp only [Int.reduceToNat, f1, f2, f3, f4] at r56 ⊢
        refine AW.l2i (pc' := 58) dX11_runFromRow_57 ?_
        refine AW.cong (b := wr (h (51 + 4) (b.toNat + 1))) (wr_of _) ?_
        have i1 := wr_in (h (51 + 4) (b.toNat + 1))
        generalize hw1 : wr (h (51 + 4) (b.toNat + 1)) = w1 at i1 ⊢
        refine AW.istore7 (pc' := 60) dX11_runFromRow_58 (by decide) rfl ?_
        refine AW.aload (pc' := 62) dX11_runFromRow_60 rfl ?_
        refine AW.iload (pc' := 64) dX11_runFromRow_62 rfl ?_
        refine AW.iconst (pc' := 65) dX11_runFromRow_64 ?_
        refine AW.iadd (pc' := 66) dX11_runFromRow_65 ?_
        first | refine AW.laldN (pc' := 67) dX11_runFromRow_66 ly_55 (by first | assumption | omega | (constructor <;> omega) | (simp only [Int.toNat_natCast]; omega) | exact b2_in _) (by decide) (fun r66 => ?_) | refine AW.lald (pc' := 67) dX11_runFromRow_66 ly_55 (by first | assumption | omega | (constructor <;> omega) | (simp only [Int.toNat_natCast]; omega) | exact b2_in _) (by first | assumption | omega | (constructor <;> omega) | (simp only [Int.toNat_natCast]; omega) | exact b2_in _) (by decide) (fun r66 => ?_)
        try simp only [Int.reduceToNat, f1, f2, f3, f4] at r66 ⊢
        refine AW.l2i (pc' := 68) dX11_runFromRow_67 ?_
        refine AW.cong (b := wr (h (51 + 4) (b.toNat + 2))) (wr_of _) ?_
        have i2 := wr_in (h (51 + 4) (b.toNat + 2))
        generalize hw2 : wr (h (51 + 4) (b.toNat + 2)) = w2 at i2 ⊢
        refine AW.istore8 (pc' := 70) dX11_runFromRow_68 (by decide) rfl ?_
        refine AW.aload (pc' := 72) dX11_runFromRow_70 rfl ?_
        refine AW.iload (pc' := 74) dX11_runFromRow_72 rfl ?_
        refine AW.iconst (pc' := 75) dX11_runFromRow_74 ?_
        refine AW.iadd (pc' := 76) dX11_runFromRow_75 ?_
        first | refine AW.laldN (pc' := 77) dX11_runFromRow_76 ly_55 (by first | assumption | omega | (constructor <;> omega) | (simp only [Int.toNat_natCast]; omega) | exact b2_in _) (by decide) (fun r76 => ?_) | refine AW.lald (pc' := 77) dX11_runFromRow_76 ly_55 (by first | assumption | omega | (constructor <;> omega) | (simp only [Int.toNat_natCast]; omega) | exact b2_in _) (by first | assumption | omega | (constructor <;> omega) | (simp only [Int.toNat_natCast]; omega) | exact b2_in _) (by decide) (fun r76 => ?_)
        try simp only [Int.reduceToNat, f1, f2, f3, f4] at r76 ⊢
        refine AW.l2i (pc' := 78) dX11_runFromRow_77 ?_
        refine AW.cong (b := wr (h (51 + 4) (b.toNat + 3))) (wr_of _) ?_
        have i3 := wr_in (h (51 + 4) (b.toNat + 3))
        generalize hw3 : wr (h (51 + 4) (b.toNat + 3)) = w3 at i3 ⊢
        refine AW.istore9 (pc' := 80) dX11_runFromRow_78 (by decide) rfl ?_
        refine AW.aload (pc' := 82) dX11_runFromRow_80 rfl ?_
        refine AW.iload (pc' := 84) dX11_runFromRow_82 rfl ?_
        refine AW.iconst (pc' := 85) dX11_runFromRow_84 ?_
        refine AW.iadd (pc' := 86) dX11_runFromRow_85 ?_
        first | refine AW.laldN (pc' := 87) dX11_runFromRow_86 ly_55 (by first | assumption | omega | (constructor <;> omega) | (simp only [Int.toNat_natCast]; omega) | exact b2_in _) (by decide) (fun r86 => ?_) | refine AW.lald (pc' := 87) dX11_runFromRow_86 ly_55 (by first | assumption | omega | (constructor <;> omega) | (simp only [Int.toNat_natCast]; omega) | exact b2_in _) (by first | assumption | omega | (constructor <;> omega) | (simp only [Int.toNat_natCast]; omega) | exact b2_in _) (by decide) (fun r86 => ?_)
        try simp only [Int.reduceToNat, f1, f2, f3, f4] at r86 ⊢
        refine AW.l2i (pc' := 88) dX11_runFromRow_87 ?_
        refine AW.cong (b := wr (h (51 + 4) (b.toNat + 4))) (wr_of _) ?_
        have i4 := wr_in (h (51 + 4) (b.toNat + 4))
        generalize hw4 : wr (h (51 + 4) (b.toNat + 4)) = w4 at i4 ⊢
        refine AW.istore10 (pc' := 90) dX11_runFromRow_88 (by decide) rfl ?_
        refine AW.aload_n (pc' := 91) dX11_runFromRow_90 rfl ?_
        refine AW.iload (pc' := 93) dX11_runFromRow_91 rfl ?_
        refine AW.iload (pc' := 95) dX11_runFromRow_93 rfl ?_
        refine AW.iload (pc' := 97) dX11_runFromRow_95 rfl ?_
        refine AW.iload (pc' := 99) dX11_runFromRow_97 rfl ?_
        refine AW.iload (pc' := 101) dX11_runFromRow_99 rfl ?_
        refine AW.invV5 (pc' := 104) dX11_runFromRow_101 mlX11_104 mX11_isRun ly_0 rfl (c_X11_isRun (dep := dep - 1) (by first | assumption | omega | (constructor <;> omega) | (simp only [Int.toNat_natCast]; omega) | exact b2_in _) (by first | assumption | omega | (constructor <;> omega) | (simp only [Int.toNat_natCast]; omega) | exact b2_in _) (by first | assumption | omega | (constructor <;> omega) | (simp only [Int.toNat_natCast]; omega) | exact b2_in _) (by first | assumption | omega | (constructor <;> omega) | (simp only [Int.toNat_natCast]; omega) | exact b2_in _) (by first | assumption | omega | (constructor <;> omega) | (simp only [Int.toNat_natCast]; omega) | exact b2_in _) (by first | assumption | omega | (constructor <;> omega) | (simp only [Int.toNat_natCast]; omega) | exact b2_in _)) ?_
        try simp only [Int.toNat_natCast, Int.reduceToNat, f1, f2, f3, f4]
        refine AW.ifb_eq (tgt := 133) (pc' := 107) dX11_runFromRow_104 (fun c104 => ?_) (fun c104 => ?_)
        · have nf : ¬ (rfP (h 12 10) (h 49 (4 : Int).toNat) (h 1 4) (h 10 1) (h 6 3) (h (51 + (4 : Int).toNat)) b) := by
            unfold rfP rowP
            simp only [Int.reduceToNat, Nat.reduceAdd, Nat.add_zero] at hw0 hw1 hw2 hw3 hw4 ql c22 ⊢
            simp only [hw0, hw1, hw2, hw3, hw4]
            omega
          refine AW.iconst (pc' := 134) dX11_runFromRow_133 ?_
          refine AW.zret dX11_runFromRow_134 ?_ ?_ (by first | exact Or.inl rfl | exact Or.inr rfl | exact b2_01 _ | assumption | (subst_vars; omega))
          · first | exact congrArg (fun z : Int => (some (vI z) : Option AV)) (b2_t pf) | exact congrArg (fun z : Int => (some (vI z) : Option AV)) (b2_f nf) | exact congrArg (fun z : Int => (some (vI z) : Option AV)) (b2_f (by unfold rfP; omega))
          · first | exact Or.inl ⟨nf, rfl⟩ | exact Or.inr ⟨pf, by subst hw0 hw1 hw2 hw3 hw4; exact s121⟩ | exact Or.inl ⟨by unfold rfP; omega, rfl⟩ | omega
        · by_cases full : 120 ≤ h 12 10
          · skip
            refine AW.aload_n (pc' := 108) dX11_runFromRow_107 rfl ?_
            refine AW.getR (pc' := 111) dX11_runFromRow_108 ly_0 fX11_35 rfl ?_
            refine AW.iload (pc' := 113) dX11_runFromRow_111 rfl ?_
            refine AW.iload (pc' := 115) dX11_runFromRow_113 rfl ?_
            refine AW.iload (pc' := 117) dX11_runFromRow_115 rfl ?_
            refine AW.iload (pc' := 119) dX11_runFromRow_117 rfl ?_
            refine AW.iload (pc' := 121) dX11_runFromRow_119 rfl ?_
            refine AW.invV5 (pc' := 124) dX11_runFromRow_121 mlX11_108 mX7_come ly_12 rfl (c_X7_comeFull (dep := dep - 1) (by first | assumption | omega | (constructor <;> omega) | (simp only [Int.toNat_natCast]; omega) | exact b2_in _) (by first | assumption | omega | (constructor <;> omega) | (simp only [Int.toNat_natCast]; omega) | exact b2_in _) (by first | assumption | omega | (constructor <;> omega) | (simp only [Int.toNat_natCast]; omega) | exact b2_in _) (by first | assumption | omega | (constructor <;> omega) | (simp only [Int.toNat_natCast]; omega) | exact b2_in _) (by first | assumption | omega | (constructor <;> omega) | (simp only [Int.toNat_natCast]; omega) | exact b2_in _) (by first | assumption | omega | (constructor <;> omega) | (simp only [Int.toNat_natCast]; omega) | exact b2_in _)) ?_
            try simp only [Int.toNat_natCast, Int.reduceToNat, f1, f2, f3, f4]
            refine AW.bipush (pc' := 126) dX11_runFromRow_124 (by decide) ?_
            refine AW.icmp_eq (tgt := 133) (pc' := 129) dX11_runFromRow_126 (by first | assumption | omega | (constructor <;> omega) | (simp only [Int.toNat_natCast]; omega) | exact b2_in _) (by first | assumption | omega | (constructor <;> omega) | (simp only [Int.toNat_natCast]; omega) | exact b2_in _) (fun c126 => ?_) (fun c126 => ?_)
            · have nf : ¬ (rfP (h 12 10) (h 49 (4 : Int).toNat) (h 1 4) (h 10 1) (h 6 3) (h (51 + (4 : Int).toNat)) b) := by
                unfold rfP rowP
                simp only [Int.reduceToNat, Nat.reduceAdd, Nat.add_zero] at hw0 hw1 hw2 hw3 hw4 ql c22 ⊢
                simp only [hw0, hw1, hw2, hw3, hw4]
                omega
              refine AW.iconst (pc' := 134) dX11_runFromRow_133 ?_
              refine AW.zret dX11_runFromRow_134 ?_ ?_ (by first | exact Or.inl rfl | exact Or.inr rfl | exact b2_01 _ | assumption | (subst_vars; omega))
              · first | exact congrArg (fun z : Int => (some (vI z) : Option AV)) (b2_t pf) | exact congrArg (fun z : Int => (some (vI z) : Option AV)) (b2_f nf) | exact congrArg (fun z : Int => (some (vI z) : Option AV)) (b2_f (by unfold rfP; omega))
              · first | exact Or.inl ⟨nf, rfl⟩ | exact Or.inr ⟨pf, by subst hw0 hw1 hw2 hw3 hw4; exact s121⟩ | exact Or.inl ⟨by unfold rfP; omega, rfl⟩ | omega
            · have pf : (rfP (h 12 10) (h 49 (4 : Int).toNat) (h 1 4) (h 10 1) (h 6 3) (h (51 + (4 : Int).toNat)) b) := by
                unfold rfP rowP
                simp only [Int.reduceToNat, Nat.reduceAdd, Nat.add_zero] at hw0 hw1 hw2 hw3 hw4 ql c22 ⊢
                simp only [hw0, hw1, hw2, hw3, hw4]
                omega
              refine AW.iconst (pc' := 130) dX11_runFromRow_129 ?_
              refine AW.goto (tgt := 134) dX11_runFromRow_130 ?_
              refine AW.zret dX11_runFromRow_134 ?_ ?_ (by first | exact Or.inl rfl | exact Or.inr rfl | exact b2_01 _ | assumption | (subst_vars; omega))
              · first | exact congrArg (fun z : Int => (some (vI z) : Option AV)) (b2_t pf) | exact congrArg (fun z : Int => (some (vI z) : Option AV)) (b2_f nf) | exact congrArg (fun z : Int => (some (vI z) : Option AV)) (b2_f (by unfold rfP; omega))
              · first | exact Or.inl ⟨nf, rfl⟩ | exact Or.inr ⟨pf, by subst hw0 hw1 hw2 hw3 hw4; exact s121⟩ | exact Or.inl ⟨by unfold rfP; omega, rfl⟩ | omega
          · skip
            refine AW.aload_n (pc' := 108) dX11_runFromRow_107 rfl ?_
            refine AW.getR (pc' := 111) dX11_runFromRow_108 ly_0 fX11_35 rfl ?_
            refine AW.iload (pc' := 113) dX11_runFromRow_111 rfl ?_
            refine AW.iload (pc' := 115) dX11_runFromRow_113 rfl ?_
            refine AW.iload (pc' := 117) dX11_runFromRow_115 rfl ?_
            refine AW.iload (pc' := 119) dX11_runFromRow_117 rfl ?_
            refine AW.iload (pc' := 121) dX11_runFromRow_119 rfl ?_
            refine AW.invQ5 (pc' := 124) dX11_runFromRow_121 mlX11_108 mX7_come ly_12 rfl (c_X7_come (dep := dep - 1) (by omega) (by omega) hQ1 hQ2 (by first | assumption | omega | (constructor <;> omega) | (simp only [Int.toNat_natCast]; omega) | exact b2_in _) (by first | assumption | omega | (constructor <;> omega) | (simp only [Int.toNat_natCast]; omega) | exact b2_in _) (by first | assumption | omega | (constructor <;> omega) | (simp only [Int.toNat_natCast]; omega) | exact b2_in _) (by first | assumption | omega | (constructor <;> omega) | (simp only [Int.toNat_natCast]; omega) | exact b2_in _) (by first | assumption | omega | (constructor <;> omega) | (simp only [Int.toNat_natCast]; omega) | exact b2_in _)) (fun h121 s121 => ?_)
            try simp only [Int.toNat_natCast, Int.reduceToNat, f1, f2, f3, f4]
            refine AW.bipush (pc' := 126) dX11_runFromRow_124 (by decide) ?_
            refine AW.icmp_eq (tgt := 133) (pc' := 129) dX11_runFromRow_126 (by first | assumption | omega | (constructor <;> omega) | (simp only [Int.toNat_natCast]; omega) | exact b2_in _) (by first | assumption | omega | (constructor <;> omega) | (simp only [Int.toNat_natCast]; omega) | exact b2_in _) (fun c126 => ?_) (fun c126 => ?_)
            · have nf : ¬ (rfP (h 12 10) (h 49 (4 : Int).toNat) (h 1 4) (h 10 1) (h 6 3) (h (51 + (4 : Int).toNat)) b) := by
                unfold rfP rowP
                simp only [Int.reduceToNat, Nat.reduceAdd, Nat.add_zero] at hw0 hw1 hw2 hw3 hw4 ql c22 ⊢
                simp only [hw0, hw1, hw2, hw3, hw4]
                omega
              refine AW.iconst (pc' := 134) dX11_runFromRow_133 ?_
              refine AW.zret dX11_runFromRow_134 ?_ ?_ (by first | exact Or.inl rfl | exact Or.inr rfl | exact b2_01 _ | assumption | (subst_vars; omega))
              · first | exact congrArg (fun z : Int => (some (vI z) : Option AV)) (b2_t pf) | exact congrArg (fun z : Int => (some (vI z) : Option AV)) (b2_f nf) | exact congrArg (fun z : Int => (some (vI z) : Option AV)) (b2_f (by unfold rfP; omega))
              · first | exact Or.inl ⟨nf, rfl⟩ | exact Or.inr ⟨pf, by subst hw0 hw1 hw2 hw3 hw4; exact s121⟩ | exact Or.inl ⟨by unfold rfP; omega, rfl⟩ | omega
            · have pf : (rfP (h 12 10) (h 49 (4 : Int).toNat) (h 1 4) (h 10 1) (h 6 3) (h (51 + (4 : Int).toNat)) b) := by
                unfold rfP rowP
                simp only [Int.reduceToNat, Nat.reduceAdd, Nat.add_zero] at hw0 hw1 hw2 hw3 hw4 ql c22 ⊢
                simp only [hw0, hw1, hw2, hw3, hw4]
                omega
              refine AW.iconst (pc' := 130) dX11_runFromRow_129 ?_
              refine AW.goto (tgt := 134) dX11_runFromRow_130 ?_
              refine AW.zret dX11_runFromRow_134 ?_ ?_ (by first | exact Or.inl rfl | exact Or.inr rfl | exact b2_01 _ | assumption | (subst_vars; omega))
              · first | exact congrArg (fun z : Int => (some (vI z) : Option AV)) (b2_t pf) | exact congrArg (fun z : Int => (some (vI z) : Option AV)) (b2_f nf) | exact congrArg (fun z : Int => (some (vI z) : Option AV)) (b2_f (by unfold rfP; omega))
              · first | exact Or.inl ⟨nf, rfl⟩ | exact Or.inr ⟨pf, by subst hw0 hw1 hw2 hw3 hw4; exact s121⟩ | exact Or.inl ⟨by unfold rfP; omega, rfl⟩ | omega
      by_cases v35_5 : a = 5
      · subst v35_5
        refine AW.aaldL (t := 56) (pc' := 36) dX11_runFromRow_35 ly_50 (by decide) (by decide) (by decide) rfl ?_
        refine AW.astore4 (pc' := 38) dX11_runFromRow_36 (by decide) rfl ?_
        have f1 : (b + 1).toNat = b.toNat + 1 := by omega
        have f2 : (b + 2).toNat = b.toNat + 2 := by omega
        have f3 : (b + 3).toNat = b.toNat + 3 := by omega
        have f4 : (b + 4).toNat = b.toNat + 4 := by omega
        refine AW.lload_n (pc' := 39) dX11_runFromRow_38 rfl ?_
        refine AW.l2i (pc' := 40) dX11_runFromRow_39 ?_
        refine AW.istore5 (pc' := 42) dX11_runFromRow_40 (by decide) rfl ?_
        refine AW.aload (pc' := 44) dX11_runFromRow_42 rfl ?_
        refine AW.iload (pc' := 46) dX11_runFromRow_44 rfl ?_
        first | refine AW.laldN (pc' := 47) dX11_runFromRow_46 ly_56 (by first | assumption | omega | (constructor <;> omega) | (simp only [Int.toNat_natCast]; omega) | exact b2_in _) (by decide) (fun r46 => ?_) | refine AW.lald (pc' := 47) dX11_runFromRow_46 ly_56 (by first | assumption | omega | (constructor <;> omega) | (simp only [Int.toNat_natCast]; omega) | exact b2_in _) (by first | assumption | omega | (constructor <;> omega) | (simp only [Int.toNat_natCast]; omega) | exact b2_in _) (by decide) (fun r46 => ?_)
        try simp only [Int.reduceToNat, f1, f2, f3, f4] at r46 ⊢
        refine AW.l2i (pc' := 48) dX11_runFromRow_47 ?_
        refine AW.cong (b := wr (h (51 + 5) (b.toNat))) (wr_of _) ?_
        have i0 := wr_in (h (51 + 5) (b.toNat))
        generalize hw0 : wr (h (51 + 5) (b.toNat)) = w0 at i0 ⊢
        refine AW.istore6 (pc' := 50) dX11_runFromRow_48 (by decide) rfl ?_
        refine AW.aload (pc' := 52) dX11_runFromRow_50 rfl ?_
        refine AW.iload (pc' := 54) dX11_runFromRow_52 rfl ?_
        refine AW.iconst (pc' := 55) dX11_runFromRow_54 ?_
        refine AW.iadd (pc' := 56) dX11_runFromRow_55 ?_
        first | refine AW.laldN (pc' := 57) dX11_runFromRow_56 ly_56 (by first | assumption | omega | (constructor <;> omega) | (simp only [Int.toNat_natCast]; omega) | exact b2_in _) (by decide) (fun r56 => ?_) | refine AW.lald (pc' := 57) dX11_runFromRow_56 ly_56 (by first | assumption | omega | (constructor <;> omega) | (simp only [Int.toNat_natCast]; omega) | exact b2_in _) (by first | assumption | omega | (constructor <;> omega) | (simp only [Int.toNat_natCast]; omega) | exact b2_in _) (by decide) (fun r56 => ?_)
        try simp only [Int.reduceToNat, f1, f2, f3, f4] at r56 ⊢
        refine AW.l2i (pc' := 58) dX11_runFromRow_57 ?_
        refine AW.cong (b := wr (h (51 + 5) (b.toNat + 1))) (wr_of _) ?_
        have i1 := wr_in (h (51 + 5) (b.toNat + 1))
        generalize hw1 : wr (h (51 + 5) (b.toNat + 1)) = w1 at i1 ⊢
        refine AW.istore7 (pc' := 60) dX11_runFromRow_58 (by decide) rfl ?_
        refine AW.aload (pc' := 62) dX11_runFromRow_60 rfl ?_
        refine AW.iload (pc' := 64) dX11_runFromRow_62 rfl ?_
        refine AW.iconst (pc' := 65) dX11_runFromRow_64 ?_
        refine AW.iadd (pc' := 66) dX11_runFromRow_65 ?_
        first | refine AW.laldN (pc' := 67) dX11_runFromRow_66 ly_56 (by first | assumption | omega | (constructor <;> omega) | (simp only [Int.toNat_natCast]; omega) | exact b2_in _) (by decide) (fun r66 => ?_) | refine AW.lald (pc' := 67) dX11_runFromRow_66 ly_56 (by first | assumption | omega | (constructor <;> omega) | (simp only [Int.toNat_natCast]; omega) | exact b2_in _) (by first | assumption | omega | (constructor <;> omega) | (simp only [Int.toNat_natCast]; omega) | exact b2_in _) (by decide) (fun r66 => ?_)
        try simp only [Int.reduceToNat, f1, f2, f3, f4] at r66 ⊢
        refine AW.l2i (pc' := 68) dX11_runFromRow_67 ?_
        refine AW.cong (b := wr (h (51 + 5) (b.toNat + 2))) (wr_of _) ?_
        have i2 := wr_in (h (51 + 5) (b.toNat + 2))
        generalize hw2 : wr (h (51 + 5) (b.toNat + 2)) = w2 at i2 ⊢
        refine AW.istore8 (pc' := 70) dX11_runFromRow_68 (by decide) rfl ?_
        refine AW.aload (pc' := 72) dX11_runFromRow_70 rfl ?_
        refine AW.iload (pc' := 74) dX11_runFromRow_72 rfl ?_
        refine AW.iconst (pc' := 75) dX11_runFromRow_74 ?_
        refine AW.iadd (pc' := 76) dX11_runFromRow_75 ?_
        first | refine AW.laldN (pc' := 77) dX11_runFromRow_76 ly_56 (by first | assumption | omega | (constructor <;> omega) | (simp only [Int.toNat_natCast]; omega) | exact b2_in _) (by decide) (fun r76 => ?_) | refine AW.lald (pc' := 77) dX11_runFromRow_76 ly_56 (by first | assumption | omega | (constructor <;> omega) | (simp only [Int.toNat_natCast]; omega) | exact b2_in _) (by first | assumption | omega | (constructor <;> omega) | (simp only [Int.toNat_natCast]; omega) | exact b2_in _) (by decide) (fun r76 => ?_)
        try simp only [Int.reduceToNat, f1, f2, f3, f4] at r76 ⊢
        refine AW.l2i (pc' := 78) dX11_runFromRow_77 ?_
        refine AW.cong (b := wr (h (51 + 5) (b.toNat + 3))) (wr_of _) ?_
        have i3 := wr_in (h (51 + 5) (b.toNat + 3))
        generalize hw3 : wr (h (51 + 5) (b.toNat + 3)) = w3 at i3 ⊢
        refine AW.istore9 (pc' := 80) dX11_runFromRow_78 (by decide) rfl ?_
        refine AW.aload (pc' := 82) dX11_runFromRow_80 rfl ?_
        refine AW.iload (pc' := 84) dX11_runFromRow_82 rfl ?_
        refine AW.iconst (pc' := 85) dX11_runFromRow_84 ?_
        refine AW.iadd (pc' := 86) dX11_runFromRow_85 ?_
        first | refine AW.laldN (pc' := 87) dX11_runFromRow_86 ly_56 (by first | assumption | omega | (constructor <;> omega) | (simp only [Int.toNat_natCast]; omega) | exact b2_in _) (by decide) (fun r86 => ?_) | refine AW.lald (pc' := 87) dX11_runFromRow_86 ly_56 (by first | assumption | omega | (constructor <;> omega) | (simp only [Int.toNat_natCast]; omega) | exact b2_in _) (by first | assumption | omega | (constructor <;> omega) | (simp only [Int.toNat_natCast]; omega) | exact b2_in _) (by decide) (fun r86 => ?_)
        try simp only [Int.reduceToNat, f1, f2, f3, f4] at r86 ⊢
        refine AW.l2i (pc' := 88) dX11_runFromRow_87 ?_
        refine AW.cong (b := wr (h (51 + 5) (b.toNat + 4))) (wr_of _) ?_
        have i4 := wr_in (h (51 + 5) (b.toNat + 4))
        generalize hw4 : wr (h (51 + 5) (b.toNat + 4)) = w4 at i4 ⊢
        refine AW.istore10 (pc' := 90) dX11_runFromRow_88 (by decide) rfl ?_
        refine AW.aload_n (pc' := 91) dX11_runFromRow_90 rfl ?_
        refine AW.iload (pc' := 93) dX11_runFromRow_91 rfl ?_
        refine AW.iload (pc' := 95) dX11_runFromRow_93 rfl ?_
        refine AW.iload (pc' := 97) dX11_runFromRow_95 rfl ?_
        refine AW.iload (pc' := 99) dX11_runFromRow_97 rfl ?_
        refine AW.iload (pc' := 101) dX11_runFromRow_99 rfl ?_
        refine AW.invV5 (pc' := 104) dX11_runFromRow_101 mlX11_104 mX11_isRun ly_0 rfl (c_X11_isRun (dep := dep - 1) (by first | assumption | omega | (constructor <;> omega) | (simp only [Int.toNat_natCast]; omega) | exact b2_in _) (by first | assumption | omega | (constructor <;> omega) | (simp only [Int.toNat_natCast]; omega) | exact b2_in _) (by first | assumption | omega | (constructor <;> omega) | (simp only [Int.toNat_natCast]; omega) | exact b2_in _) (by first | assumption | omega | (constructor <;> omega) | (simp only [Int.toNat_natCast]; omega) | exact b2_in _) (by first | assumption | omega | (constructor <;> omega) | (simp only [Int.toNat_natCast]; omega) | exact b2_in _) (by first | assumption | omega | (constructor <;> omega) | (simp only [Int.toNat_natCast]; omega) | exact b2_in _)) ?_
        try simp only [Int.toNat_natCast, Int.reduceToNat, f1, f2, f3, f4]
        refine AW.ifb_eq (tgt := 133) (pc' := 107) dX11_runFromRow_104 (fun c104 => ?_) (fun c104 => ?_)
        · have nf : ¬ (rfP (h 12 10) (h 49 (5 : Int).toNat) (h 1 4) (h 10 1) (h 6 3) (h (51 + (5 : Int).toNat)) b) := by
            unfold rfP rowP
            simp only [Int.reduceToNat, Nat.reduceAdd, Nat.add_zero] at hw0 hw1 hw2 hw3 hw4 ql c22 ⊢
            simp only [hw0, hw1, hw2, hw3, hw4]
            omega
          refine AW.iconst (pc' := 134) dX11_runFromRow_133 ?_
          refine AW.zret dX11_runFromRow_134 ?_ ?_ (by first | exact Or.inl rfl | exact Or.inr rfl | exact b2_01 _ | assumption | (subst_vars; omega))
          · first | exact congrArg (fun z : Int => (some (vI z) : Option AV)) (b2_t pf) | exact congrArg (fun z : Int => (some (vI z) : Option AV)) (b2_f nf) | exact congrArg (fun z : Int => (some (vI z) : Option AV)) (b2_f (by unfold rfP; omega))
          · first | exact Or.inl ⟨nf, rfl⟩ | exact Or.inr ⟨pf, by subst hw0 hw1 hw2 hw3 hw4; exact s121⟩ | exact Or.inl ⟨by unfold rfP; omega, rfl⟩ | omega
        · by_cases full : 120 ≤ h 12 10
          · skip
            refine AW.aload_n (pc' := 108) dX11_runFromRow_107 rfl ?_
            refine AW.getR (pc' := 111) dX11_runFromRow_108 ly_0 fX11_35 rfl ?_
            refine AW.iload (pc' := 113) dX11_runFromRow_111 rfl ?_
            refine AW.iload (pc' := 115) dX11_runFromRow_113 rfl ?_
            refine AW.iload (pc' := 117) dX11_runFromRow_115 rfl ?_
            refine AW.iload (pc' := 119) dX11_runFromRow_117 rfl ?_
            refine AW.iload (pc' := 121) dX11_runFromRow_119 rfl ?_
            refine AW.invV5 (pc' := 124) dX11_runFromRow_121 mlX11_108 mX7_come ly_12 rfl (c_X7_comeFull (dep := dep - 1) (by first | assumption | omega | (constructor <;> omega) | (simp only [Int.toNat_natCast]; omega) | exact b2_in _) (by first | assumption | omega | (constructor <;> omega) | (simp only [Int.toNat_natCast]; omega) | exact b2_in _) (by first | assumption | omega | (constructor <;> omega) | (simp only [Int.toNat_natCast]; omega) | exact b2_in _) (by first | assumption | omega | (constructor <;> omega) | (simp only [Int.toNat_natCast]; omega) | exact b2_in _) (by first | assumption | omega | (constructor <;> omega) | (simp only [Int.toNat_natCast]; omega) | exact b2_in _) (by first | assumption | omega | (constructor <;> omega) | (simp only [Int.toNat_natCast]; omega) | exact b2_in _)) ?_
            try simp only [Int.toNat_natCast, Int.reduceToNat, f1, f2, f3, f4]
            refine AW.bipush (pc' := 126) dX11_runFromRow_124 (by decide) ?_
            refine AW.icmp_eq (tgt := 133) (pc' := 129) dX11_runFromRow_126 (by first | assumption | omega | (constructor <;> omega) | (simp only [Int.toNat_natCast]; omega) | exact b2_in _) (by first | assumption | omega | (constructor <;> omega) | (simp only [Int.toNat_natCast]; omega) | exact b2_in _) (fun c126 => ?_) (fun c126 => ?_)
            · have nf : ¬ (rfP (h 12 10) (h 49 (5 : Int).toNat) (h 1 4) (h 10 1) (h 6 3) (h (51 + (5 : Int).toNat)) b) := by
                unfold rfP rowP
                simp only [Int.reduceToNat, Nat.reduceAdd, Nat.add_zero] at hw0 hw1 hw2 hw3 hw4 ql c22 ⊢
                simp only [hw0, hw1, hw2, hw3, hw4]
                omega
              refine AW.iconst (pc' := 134) dX11_runFromRow_133 ?_
              refine AW.zret dX11_runFromRow_134 ?_ ?_ (by first | exact Or.inl rfl | exact Or.inr rfl | exact b2_01 _ | assumption | (subst_vars; omega))
              · first | exact congrArg (fun z : Int => (some (vI z) : Option AV)) (b2_t pf) | exact congrArg (fun z : Int => (some (vI z) : Option AV)) (b2_f nf) | exact congrArg (fun z : Int => (some (vI z) : Option AV)) (b2_f (by unfold rfP; omega))
              · first | exact Or.inl ⟨nf, rfl⟩ | exact Or.inr ⟨pf, by subst hw0 hw1 hw2 hw3 hw4; exact s121⟩ | exact Or.inl ⟨by unfold rfP; omega, rfl⟩ | omega
            · have pf : (rfP (h 12 10) (h 49 (5 : Int).toNat) (h 1 4) (h 10 1) (h 6 3) (h (51 + (5 : Int).toNat)) b) := by
                unfold rfP rowP
                simp only [Int.reduceToNat, Nat.reduceAdd, Nat.add_zero] at hw0 hw1 hw2 hw3 hw4 ql c22 ⊢
                simp only [hw0, hw1, hw2, hw3, hw4]
                omega
              refine AW.iconst (pc' := 130) dX11_runFromRow_129 ?_
              refine AW.goto (tgt := 134) dX11_runFromRow_130 ?_
              refine AW.zret dX11_runFromRow_134 ?_ ?_ (by first | exact Or.inl rfl | exact Or.inr rfl | exact b2_01 _ | assumption | (subst_vars; omega))
              · first | exact congrArg (fun z : Int => (some (vI z) : Option AV)) (b2_t pf) | exact congrArg (fun z : Int => (some (vI z) : Option AV)) (b2_f nf) | exact congrArg (fun z : Int => (some (vI z) : Option AV)) (b2_f (by unfold rfP; omega))
              · first | exact Or.inl ⟨nf, rfl⟩ | exact Or.inr ⟨pf, by subst hw0 hw1 hw2 hw3 hw4; exact s121⟩ | exact Or.inl ⟨by unfold rfP; omega, rfl⟩ | omega
          · skip
            refine AW.aload_n (pc' := 108) dX11_runFromRow_107 rfl ?_
            refine AW.getR (pc' := 111) dX11_runFromRow_108 ly_0 fX11_35 rfl ?_
            refine AW.iload (pc' := 113) dX11_runFromRow_111 rfl ?_
            refine AW.iload (pc' := 115) dX11_runFromRow_113 rfl ?_
            refine AW.iload (pc' := 117) dX11_runFromRow_115 rfl ?_
            refine AW.iload (pc' := 119) dX11_runFromRow_117 rfl ?_
            refine AW.iload (pc' := 121) dX11_runFromRow_119 rfl ?_
            refine AW.invQ5 (pc' := 124) dX11_runFromRow_121 mlX11_108 mX7_come ly_12 rfl (c_X7_come (dep := dep - 1) (by omega) (by omega) hQ1 hQ2 (by first | assumption | omega | (constructor <;> omega) | (simp only [Int.toNat_natCast]; omega) | exact b2_in _) (by first | assumption | omega | (constructor <;> omega) | (simp only [Int.toNat_natCast]; omega) | exact b2_in _) (by first | assumption | omega | (constructor <;> omega) | (simp only [Int.toNat_natCast]; omega) | exact b2_in _) (by first | assumption | omega | (constructor <;> omega) | (simp only [Int.toNat_natCast]; omega) | exact b2_in _) (by first | assumption | omega | (constructor <;> omega) | (simp only [Int.toNat_natCast]; omega) | exact b2_in _)) (fun h121 s121 => ?_)
            try simp only [Int.toNat_natCast, Int.reduceToNat, f1, f2, f3, f4]
            refine AW.bipush (pc' := 126) dX11_runFromRow_124 (by decide) ?_
            refine AW.icmp_eq (tgt := 133) (pc' := 129) dX11_runFromRow_126 (by first | assumption | omega | (constructor <;> omega) | (simp only [Int.toNat_natCast]; omega) | exact b2_in _) (by first | assumption | omega | (constructor <;> omega) | (simp only [Int.toNat_natCast]; omega) | exact b2_in _) (fun c126 => ?_) (fun c126 => ?_)
            · have nf : ¬ (rfP (h 12 10) (h 49 (5 : Int).toNat) (h 1 4) (h 10 1) (h 6 3) (h (51 + (5 : Int).toNat)) b) := by
                unfold rfP rowP
                simp only [Int.reduceToNat, Nat.reduceAdd, Nat.add_zero] at hw0 hw1 hw2 hw3 hw4 ql c22 ⊢
                simp only [hw0, hw1, hw2, hw3, hw4]
                omega
              refine AW.iconst (pc' := 134) dX11_runFromRow_133 ?_
              refine AW.zret dX11_runFromRow_134 ?_ ?_ (by first | exact Or.inl rfl | exact Or.inr rfl | exact b2_01 _ | assumption | (subst_vars; omega))
              · first | exact congrArg (fun z : Int => (some (vI z) : Option AV)) (b2_t pf) | exact congrArg (fun z : Int => (some (vI z) : Option AV)) (b2_f nf) | exact congrArg (fun z : Int => (some (vI z) : Option AV)) (b2_f (by unfold rfP; omega))
              · first | exact Or.inl ⟨nf, rfl⟩ | exact Or.inr ⟨pf, by subst hw0 hw1 hw2 hw3 hw4; exact s121⟩ | exact Or.inl ⟨by unfold rfP; omega, rfl⟩ | omega
            · have pf : (rfP (h 12 10) (h 49 (5 : Int).toNat) (h 1 4) (h 10 1) (h 6 3) (h (51 + (5 : Int).toNat)) b) := by
                unfold rfP rowP
                simp only [Int.reduceToNat, Nat.reduceAdd, Nat.add_zero] at hw0 hw1 hw2 hw3 hw4 ql c22 ⊢
                simp only [hw0, hw1, hw2, hw3, hw4]
                omega
              refine AW.iconst (pc' := 130) dX11_runFromRow_129 ?_
              refine AW.goto (tgt := 134) dX11_runFromRow_130 ?_
              refine AW.zret dX11_runFromRow_134 ?_ ?_ (by first | exact Or.inl rfl | exact Or.inr rfl | exact b2_01 _ | assumption | (subst_vars; omega))
              · first | exact congrArg (fun z : Int => (some (vI z) : Option AV)) (b2_t pf) | exact congrArg (fun z : Int => (some (vI z) : Option AV)) (b2_f nf) | exact congrArg (fun z : Int => (some (vI z) : Option AV)) (b2_f (by unfold rfP; omega))
              · first | exact Or.inl ⟨nf, rfl⟩ | exact Or.inr ⟨pf, by subst hw0 hw1 hw2 hw3 hw4; exact s121⟩ | exact Or.inl ⟨by unfold rfP; omega, rfl⟩ | omega
      exfalso
      omega
    · simp only [cmpI_lt, cmpI_le, cmpI_gt, cmpI_ge, cmpI_eq, cmpI_ne] at c22
      refine AW.iconst (pc' := 26) dX11_runFromRow_25 ?_
      refine AW.zret dX11_runFromRow_26 ?_ ?_ (by first | exact Or.inl rfl | exact Or.inr rfl | exact b2_01 _ | assumption | (subst_vars; omega))
      · first | exact congrArg (fun z : Int => (some (vI z) : Option AV)) (b2_t pf) | exact congrArg (fun z : Int => (some (vI z) : Option AV)) (b2_f nf) | exact congrArg (fun z : Int => (some (vI z) : Option AV)) (b2_f (by unfold rfP; omega))
      · first | exact Or.inl ⟨nf, rfl⟩ | exact Or.inr ⟨pf, by subst hw0 hw1 hw2 hw3 hw4; exact s121⟩ | exact Or.inl ⟨by unfold rfP; omega, rfl⟩ | omega
