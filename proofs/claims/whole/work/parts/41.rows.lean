/-! runs from a row; shift; the class -/
abbrev rowP (nr nc ns : Int) (r0 r1 r2 r3 r4 : Int) : Prop := (0 ≤ r0 ∧ r0 < nr) ∧ (0 ≤ r1 ∧ r1 < nc) ∧ (0 ≤ r2 ∧ r2 ≤ 99) ∧ (10 ≤ r3 ∧ r3 ≤ 29999) ∧ (r4 = -1 ∨ 0 ≤ r4 ∧ r4 < ns)
/-- is there a run at that place of a row, and may it come -/
abbrev rfP (sz len nr nc ns : Int) (row : Nat → Int) (f : Int) : Prop := (0 ≤ f ∧ f + 5 ≤ len) ∧ rowP nr nc ns (wr (row f.toNat)) (wr (row (f.toNat + 1))) (wr (row (f.toNat + 2))) (wr (row (f.toNat + 3))) (wr (row (f.toNat + 4))) ∧ sz < 120
set_option maxRecDepth 100000 in
set_option maxHeartbeats 4000000 in
theorem c_X11_runFromRow {K : KT} {dep : Nat} {h : Hp} {a b : Int} (hd : 3 ≤ dep) (q0 : 0 ≤ h 12 10) (hQ1 : PO (h 12 10) (h 18)) (hQ2 : PO (h 12 10) (h 19)) (qa : 0 ≤ a ∧ a < 6) (ql : 0 ≤ h 49 a.toNat ∧ h 49 a.toNat ≤ 60) (qb : -1000000000000 ≤ b ∧ b ≤ 1000000000000) : AMp K yX11_runFromRow cX11_runFromRow 11 (some .boolean) dep [vR 0, vI a, vL b] h (some (vI (b2 (rfP (h 12 10) (h 49 a.toNat) (h 1 4) (h 10 1) (h 6 3) (h (51 + a.toNat)) b)))) (fun x => (¬ (rfP (h 12 10) (h 49 a.toNat) (h 1 4) (h 10 1) (h 6 3) (h (51 + a.toNat)) b) ∧ x = h) ∨ ((rfP (h 12 10) (h 49 a.toNat) (h 1 4) (h 10 1) (h 6 3) (h (51 + a.toNat)) b) ∧ CP h (wr (h (51 + a.toNat) (b.toNat))) (wr (h (51 + a.toNat) (b.toNat + 1))) (wr (h (51 + a.toNat) (b.toNat + 2))) (wr (h (51 + a.toNat) (b.toNat + 3))) (wr (h (51 + a.toNat) (b.toNat + 4))) x)) := by
  refine AM.of (own := RX11) (ls := [some (vR 0), some (vI a), some (vL b), none, none, none, none, none, none, none, none]) rfl (by decide +kernel) (by exact Nat.le_of_ble_eq_true rfl) rfl (fun hO => ?_)
  refine AW.lload_n (pc' := 1) dX11_runFromRow_0 rfl ?_
  refine AW.lconst_0 (pc' := 2) dX11_runFromRow_1 ?_
  refine AW.lcmp (pc' := 3) dX11_runFromRow_2 (by first | assumption | omega | (constructor <;> omega) | (simp only [Int.toNat_natCast]; omega) | exact b2_in _) (by first | assumption | omega | (constructor <;> omega) | (simp only [Int.toNat_natCast]; omega) | exact b2_in _) ?_
  refine AW.if_lt (tgt := 25) (pc' := 6) dX11_runFromRow_3 (cmpI_in _ _) (fun c3 => ?_) (fun c3 => ?_)
  · simp only [cmpI_lt, cmpI_le, cmpI_gt, cmpI_ge, cmpI_eq, cmpI_ne] at c3
    refine AW.iconst (pc' := 26) dX11_runFromRow_25 ?_
    refine AW.zret dX11_runFromRow_26 ?_ ?_ (by first | exact Or.inl rfl | exact Or.inr rfl | exact b2_01 _ | assumption | (subst_vars; omega))
    · first | exact congrArg (fun z : Int => (some (vI z) : Option AV)) (b2_t (by unfold rfP rowP; (try simp only [Int.reduceToNat, Nat.reduceAdd, Nat.add_zero] at *); (try simp only [hw0, hw1, hw2, hw3, hw4]); omega)) | exact congrArg (fun z : Int => (some (vI z) : Option AV)) (b2_f (by unfold rfP rowP; (try simp only [Int.reduceToNat, Nat.reduceAdd, Nat.add_zero] at *); (try simp only [hw0, hw1, hw2, hw3, hw4]); omega)) | exact congrArg (fun z : Int => (some (vI z) : Option AV)) (b2_t (by unfold rfP rowP; (try simp only [Int.reduceToNat, Nat.reduceAdd, Nat.add_zero] at *); (try simp only [hw0, hw1, hw2, hw3, hw4]); omega)).symm | exact congrArg (fun z : Int => (some (vI z) : Option AV)) (b2_f (by unfold rfP rowP; (try simp only [Int.reduceToNat, Nat.reduceAdd, Nat.add_zero] at *); (try simp only [hw0, hw1, hw2, hw3, hw4]); omega)).symm
    · first | exact Or.inl ⟨(by unfold rfP rowP; (try simp only [Int.reduceToNat, Nat.reduceAdd, Nat.add_zero] at *); (try simp only [hw0, hw1, hw2, hw3, hw4]); omega), rfl⟩ | exact Or.inr ⟨(by unfold rfP rowP; (try simp only [Int.reduceToNat, Nat.reduceAdd, Nat.add_zero] at *); (try simp only [hw0, hw1, hw2, hw3, hw4]); omega), by subst hw0 hw1 hw2 hw3 hw4; exact s121⟩
  · simp only [cmpI_lt, cmpI_le, cmpI_gt, cmpI_ge, cmpI_eq, cmpI_ne] at c3
    refine AW.lload_n (pc' := 7) dX11_runFromRow_6 rfl ?_
    refine AW.ldc2 (v := 5) (pc' := 10) dX11_runFromRow_7 klX11_119 ?_
    refine AW.ladd (pc' := 11) dX11_runFromRow_10 ?_
    refine AW.aload_n (pc' := 12) dX11_runFromRow_11 rfl ?_
    refine AW.getR (pc' := 15) dX11_runFromRow_12 ly_0 fX11_81 rfl ?_
    refine AW.getR (pc' := 18) dX11_runFromRow_15 ly_46 fX11_125 rfl ?_
    refine AW.iload_n (pc' := 19) dX11_runFromRow_18 rfl ?_
    first | refine AW.ialdN (pc' := 20) dX11_runFromRow_19 ly_49 (by first | assumption | omega | (constructor <;> omega) | (simp only [Int.toNat_natCast]; omega) | exact b2_in _) (by decide) (fun r19 => ?_) | refine AW.iald (pc' := 20) dX11_runFromRow_19 ly_49 (by first | assumption | omega | (constructor <;> omega) | (simp only [Int.toNat_natCast]; omega) | exact b2_in _) (by first | assumption | omega | (constructor <;> omega) | (simp only [Int.toNat_natCast]; omega) | exact b2_in _) (by decide) (fun r19 => ?_)
    try simp only [Int.reduceToNat, f1, f2, f3, f4] at r19 ⊢
    refine AW.i2l (pc' := 21) dX11_runFromRow_20 (by first | assumption | omega | (constructor <;> omega) | (simp only [Int.toNat_natCast]; omega) | exact b2_in _) ?_
    refine AW.lcmp (pc' := 22) dX11_runFromRow_21 (by first | assumption | omega | (constructor <;> omega) | (simp only [Int.toNat_natCast]; omega) | exact b2_in _) (by first | assumption | omega | (constructor <;> omega) | (simp only [Int.toNat_natCast]; omega) | exact b2_in _) ?_
    refine AW.if_le (tgt := 27) (pc' := 25) dX11_runFromRow_22 (cmpI_in _ _) (fun c22 => ?_) (fun c22 => ?_)
    · simp only [cmpI_lt, cmpI_le, cmpI_gt, cmpI_ge, cmpI_eq, cmpI_ne] at c22
      refine AW.aload_n (pc' := 28) dX11_runFromRow_27 rfl ?_
      refine AW.getR (pc' := 31) dX11_runFromRow_28 ly_0 fX11_81 rfl ?_
      refine AW.getR (pc' := 34) dX11_runFromRow_31 ly_46 fX11_128 rfl ?_
      refine AW.iload_n (pc' := 35) dX11_runFromRow_34 rfl ?_
      by_cases v35_0 : a = 0
      · subst v35_0
        refine AW.aaldL (t := 51) (pc' := 36) dX11_runFromRow_35 ly_50 (by decide) (by decide) (by decide) rfl ?_
        refine AW.astore4 (pc' := 38) dX11_runFromRow_36 (by decide) rfl ?_
        have f1 : (b + 1).toNat = b.toNat + 1 := by omega
        have f2 : (b + 2).toNat = b.toNat + 2 := by omega
        have f3 : (b + 3).toNat = b.toNat + 3 := by omega
        have f4 : (b + 4).toNat = b.toNat + 4 := by omega
        refine AW.lload_n (pc' := 39) dX11_runFromRow_38 rfl ?_
        refine AW.l2i (pc' := 40) dX11_runFromRow_39 ?_
        refine AW.istore5 (pc' := 42) dX11_runFromRow_40 (by decide) rfl ?_
        refine AW.aload (pc' := 44) dX11_runFromRow_42 rfl ?_
        refine AW.iload (pc' := 46) dX11_runFromRow_44 rfl ?_
        first | refine AW.laldN (pc' := 47) dX11_runFromRow_46 ly_51 (by first | assumption | omega | (constructor <;> omega) | (simp only [Int.toNat_natCast]; omega) | exact b2_in _) (by decide) (fun r46 => ?_) | refine AW.lald (pc' := 47) dX11_runFromRow_46 ly_51 (by first | assumption | omega | (constructor <;> omega) | (simp only [Int.toNat_natCast]; omega) | exact b2_in _) (by first | assumption | omega | (constructor <;> omega) | (simp only [Int.toNat_natCast]; omega) | exact b2_in _) (by decide) (fun r46 => ?_)
        try simp only [Int.reduceToNat, f1, f2, f3, f4] at r46 ⊢
        refine AW.l2i (pc' := 48) dX11_runFromRow_47 ?_
        refine AW.cong (b := wr (h (51 + 0) (b.toNat))) (wr_of _) ?_
        have i0 := wr_in (h (51 + 0) (b.toNat))
        generalize hw0 : wr (h (51 + 0) (b.toNat)) = w0 at i0 ⊢
        refine AW.istore6 (pc' := 50) dX11_runFromRow_48 (by decide) rfl ?_
        refine AW.aload (pc' := 52) dX11_runFromRow_50 rfl ?_
        refine AW.iload (pc' := 54) dX11_runFromRow_52 rfl ?_
        refine AW.iconst (pc' := 55) dX11_runFromRow_54 ?_
        refine AW.iadd (pc' := 56) dX11_runFromRow_55 ?_
        first | refine AW.laldN (pc' := 57) dX11_runFromRow_56 ly_51 (by first | assumption | omega | (constructor <;> omega) | (simp only [Int.toNat_natCast]; omega) | exact b2_in _) (by decide) (fun r56 => ?_) | refine AW.lald (pc' := 57) dX11_runFromRow_56 ly_51 (by first | assumption | omega | (constructor <;> omega) | (simp only [Int.toNat_natCast]; omega) | exact b2_in _) (by first | assumption | omega | (constructor <;> omega) | (simp only [Int.toNat_natCast]; omega) | exact b2_in _) (by decide) (fun r56 => ?_)
        try simp only [Int.reduceToNat, f1, f2, f3, f4] at r56 ⊢
        refine AW.l2i (pc' := 58) dX11_runFromRow_57 ?_
        refine AW.cong (b := wr (h (51 + 0) (b.toNat + 1))) (wr_of _) ?_
        have i1 := wr_in (h (51 + 0) (b.toNat + 1))
        generalize hw1 : wr (h (51 + 0) (b.toNat + 1)) = w1 at i1 ⊢
        refine AW.istore7 (pc' := 60) dX11_runFromRow_58 (by decide) rfl ?_
        refine AW.aload (pc' := 62) dX11_runFromRow_60 rfl ?_
        refine AW.iload (pc' := 64) dX11_runFromRow_62 rfl ?_
        refine AW.iconst (pc' := 65) dX11_runFromRow_64 ?_
        refine AW.iadd (pc' := 66) dX11_runFromRow_65 ?_
        first | refine AW.laldN (pc' := 67) dX11_runFromRow_66 ly_51 (by first | assumption | omega | (constructor <;> omega) | (simp only [Int.toNat_natCast]; omega) | exact b2_in _) (by decide) (fun r66 => ?_) | refine AW.lald (pc' := 67) dX11_runFromRow_66 ly_51 (by first | assumption | omega | (constructor <;> omega) | (simp only [Int.toNat_natCast]; omega) | exact b2_in _) (by first | assumption | omega | (constructor <;> omega) | (simp only [Int.toNat_natCast]; omega) | exact b2_in _) (by decide) (fun r66 => ?_)
        try simp only [Int.reduceToNat, f1, f2, f3, f4] at r66 ⊢
        refine AW.l2i (pc' := 68) dX11_runFromRow_67 ?_
        refine AW.cong (b := wr (h (51 + 0) (b.toNat + 2))) (wr_of _) ?_
        have i2 := wr_in (h (51 + 0) (b.toNat + 2))
        generalize hw2 : wr (h (51 + 0) (b.toNat + 2)) = w2 at i2 ⊢
        refine AW.istore8 (pc' := 70) dX11_runFromRow_68 (by decide) rfl ?_
        refine AW.aload (pc' := 72) dX11_runFromRow_70 rfl ?_
        refine AW.iload (pc' := 74) dX11_runFromRow_72 rfl ?_
        refine AW.iconst (pc' := 75) dX11_runFromRow_74 ?_
        refine AW.iadd (pc' := 76) dX11_runFromRow_75 ?_
        first | refine AW.laldN (pc' := 77) dX11_runFromRow_76 ly_51 (by first | assumption | omega | (constructor <;> omega) | (simp only [Int.toNat_natCast]; omega) | exact b2_in _) (by decide) (fun r76 => ?_) | refine AW.lald (pc' := 77) dX11_runFromRow_76 ly_51 (by first | assumption | omega | (constructor <;> omega) | (simp only [Int.toNat_natCast]; omega) | exact b2_in _) (by first | assumption | omega | (constructor <;> omega) | (simp only [Int.toNat_natCast]; omega) | exact b2_in _) (by decide) (fun r76 => ?_)
        try simp only [Int.reduceToNat, f1, f2, f3, f4] at r76 ⊢
        refine AW.l2i (pc' := 78) dX11_runFromRow_77 ?_
        refine AW.cong (b := wr (h (51 + 0) (b.toNat + 3))) (wr_of _) ?_
        have i3 := wr_in (h (51 + 0) (b.toNat + 3))
        generalize hw3 : wr (h (51 + 0) (b.toNat + 3)) = w3 at i3 ⊢
        refine AW.istore9 (pc' := 80) dX11_runFromRow_78 (by decide) rfl ?_
        refine AW.aload (pc' := 82) dX11_runFromRow_80 rfl ?_
        refine AW.iload (pc' := 84) dX11_runFromRow_82 rfl ?_
        refine AW.iconst (pc' := 85) dX11_runFromRow_84 ?_
        refine AW.iadd (pc' := 86) dX11_runFromRow_85 ?_
        first | refine AW.laldN (pc' := 87) dX11_runFromRow_86 ly_51 (by first | assumption | omega | (constructor <;> omega) | (simp only [Int.toNat_natCast]; omega) | exact b2_in _) (by decide) (fun r86 => ?_) | refine AW.lald (pc' := 87) dX11_runFromRow_86 ly_51 (by first | assumption | omega | (constructor <;> omega) | (simp only [Int.toNat_natCast]; omega) | exact b2_in _) (by first | assumption | omega | (constructor <;> omega) | (simp only [Int.toNat_natCast]; omega) | exact b2_in _) (by decide) (fun r86 => ?_)
        try simp only [Int.reduceToNat, f1, f2, f3, f4] at r86 ⊢
        refine AW.l2i (pc' := 88) dX11_runFromRow_87 ?_
        refine AW.cong (b := wr (h (51 + 0) (b.toNat + 4))) (wr_of _) ?_
        have i4 := wr_in (h (51 + 0) (b.toNat + 4))
        generalize hw4 : wr (h (51 + 0) (b.toNat + 4)) = w4 at i4 ⊢
        refine AW.istore10 (pc' := 90) dX11_runFromRow_88 (by decide) rfl ?_
        refine AW.aload_n (pc' := 91) dX11_runFromRow_90 rfl ?_
        refine AW.iload (pc' := 93) dX11_runFromRow_91 rfl ?_
        refine AW.iload (pc' := 95) dX11_runFromRow_93 rfl ?_
        refine AW.iload (pc' := 97) dX11_runFromRow_95 rfl ?_
        refine AW.iload (pc' := 99) dX11_runFromRow_97 rfl ?_
        refine AW.iload (pc' := 101) dX11_runFromRow_99 rfl ?_
        refine AW.invV5 (pc' := 104) dX11_runFromRow_101 mlX11_104 mX11_isRun ly_0 rfl (c_X11_isRun (dep := dep - 1) (by first | assumption | omega | (constructor <;> omega) | (simp only [Int.toNat_natCast]; omega) | exact b2_in _) (by first | assumption | omega | (constructor <;> omega) | (simp only [Int.toNat_natCast]; omega) | exact b2_in _) (by first | assumption | omega | (constructor <;> omega) | (simp only [Int.toNat_natCast]; omega) | exact b2_in _) (by first | assumption | omega | (constructor <;> omega) | (simp only [Int.toNat_natCast]; omega) | exact b2_in _) (by first | assumption | omega | (constructor <;> omega) | (simp only [Int.toNat_natCast]; omega) | exact b2_in _) (by first | assumption | omega | (constructor <;> omega) | (simp only [Int.toNat_natCast]; omega) | exact b2_in _)) ?_
        try simp only [Int.toNat_natCast, Int.reduceToNat, f1, f2, f3, f4]
        refine AW.ifb_eq (tgt := 133) (pc' := 107) dX11_runFromRow_104 (fun c104 => ?_) (fun c104 => ?_)
        · refine AW.iconst (pc' := 134) dX11_runFromRow_133 ?_
          refine AW.zret dX11_runFromRow_134 ?_ ?_ (by first | exact Or.inl rfl | exact Or.inr rfl | exact b2_01 _ | assumption | (subst_vars; omega))
          · first | exact congrArg (fun z : Int => (some (vI z) : Option AV)) (b2_t (by unfold rfP rowP; (try simp only [Int.reduceToNat, Nat.reduceAdd, Nat.add_zero] at *); (try simp only [hw0, hw1, hw2, hw3, hw4]); omega)) | exact congrArg (fun z : Int => (some (vI z) : Option AV)) (b2_f (by unfold rfP rowP; (try simp only [Int.reduceToNat, Nat.reduceAdd, Nat.add_zero] at *); (try simp only [hw0, hw1, hw2, hw3, hw4]); omega)) | exact congrArg (fun z : Int => (some (vI z) : Option AV)) (b2_t (by unfold rfP rowP; (try simp only [Int.reduceToNat, Nat.reduceAdd, Nat.add_zero] at *); (try simp only [hw0, hw1, hw2, hw3, hw4]); omega)).symm | exact congrArg (fun z : Int => (some (vI z) : Option AV)) (b2_f (by unfold rfP rowP; (try simp only [Int.reduceToNat, Nat.reduceAdd, Nat.add_zero] at *); (try simp only [hw0, hw1, hw2, hw3, hw4]); omega)).symm
          · first | exact Or.inl ⟨(by unfold rfP rowP; (try simp only [Int.reduceToNat, Nat.reduceAdd, Nat.add_zero] at *); (try simp only [hw0, hw1, hw2, hw3, hw4]); omega), rfl⟩ | exact Or.inr ⟨(by unfold rfP rowP; (try simp only [Int.reduceToNat, Nat.reduceAdd, Nat.add_zero] at *); (try simp only [hw0, hw1, hw2, hw3, hw4]); omega), by subst hw0 hw1 hw2 hw3 hw4; exact s121⟩
        · by_cases full : 120 ≤ h 12 10
          · skip
            refine AW.aload_n (pc' := 108) dX11_runFromRow_107 rfl ?_
            refine AW.getR (pc' := 111) dX11_runFromRow_108 ly_0 fX11_35 rfl ?_
            refine AW.iload (pc' := 113) dX11_runFromRow_111 rfl ?_
            refine AW.iload (pc' := 115) dX11_runFromRow_113 rfl ?_
            refine AW.iload (pc' := 117) dX11_runFromRow_115 rfl ?_
            refine AW.iload (pc' := 119) dX11_runFromRow_117 rfl ?_
            refine AW.iload (pc' := 121) dX11_runFromRow_119 rfl ?_
            refine AW.invV5 (pc' := 124) dX11_runFromRow_121 mlX11_108 mX7_come ly_12 rfl (c_X7_comeFull (dep := dep - 1) (by first | assumption | omega | (constructor <;> omega) | (simp only [Int.toNat_natCast]; omega) | exact b2_in _) (by first | assumption | omega | (constructor <;> omega) | (simp only [Int.toNat_natCast]; omega) | exact b2_in _) (by first | assumption | omega | (constructor <;> omega) | (simp only [Int.toNat_natCast]; omega) | exact b2_in _) (by first | assumption | omega | (constructor <;> omega) | (simp only [Int.toNat_natCast]; omega) | exact b2_in _) (by first | assumption | omega | (constructor <;> omega) | (simp only [Int.toNat_natCast]; omega) | exact b2_in _) (by first | assumption | omega | (constructor <;> omega) | (simp only [Int.toNat_natCast]; omega) | exact b2_in _)) ?_
            try simp only [Int.toNat_natCast, Int.reduceToNat, f1, f2, f3, f4]
            refine AW.bipush (pc' := 126) dX11_runFromRow_124 (by decide) ?_
            refine AW.icmp_eq (tgt := 133) (pc' := 129) dX11_runFromRow_126 (by first | assumption | omega | (constructor <;> omega) | (simp only [Int.toNat_natCast]; omega) | exact b2_in _) (by first | assumption | omega | (constructor <;> omega) | (simp only [Int.toNat_natCast]; omega) | exact b2_in _) (fun c126 => ?_) (fun c126 => ?_)
            · refine AW.iconst (pc' := 134) dX11_runFromRow_133 ?_
              refine AW.zret dX11_runFromRow_134 ?_ ?_ (by first | exact Or.inl rfl | exact Or.inr rfl | exact b2_01 _ | assumption | (subst_vars; omega))
              · first | exact congrArg (fun z : Int => (some (vI z) : Option AV)) (b2_t (by unfold rfP rowP; (try simp only [Int.reduceToNat, Nat.reduceAdd, Nat.add_zero] at *); (try simp only [hw0, hw1, hw2, hw3, hw4]); omega)) | exact congrArg (fun z : Int => (some (vI z) : Option AV)) (b2_f (by unfold rfP rowP; (try simp only [Int.reduceToNat, Nat.reduceAdd, Nat.add_zero] at *); (try simp only [hw0, hw1, hw2, hw3, hw4]); omega)) | exact congrArg (fun z : Int => (some (vI z) : Option AV)) (b2_t (by unfold rfP rowP; (try simp only [Int.reduceToNat, Nat.reduceAdd, Nat.add_zero] at *); (try simp only [hw0, hw1, hw2, hw3, hw4]); omega)).symm | exact congrArg (fun z : Int => (some (vI z) : Option AV)) (b2_f (by unfold rfP rowP; (try simp only [Int.reduceToNat, Nat.reduceAdd, Nat.add_zero] at *); (try simp only [hw0, hw1, hw2, hw3, hw4]); omega)).symm
              · first | exact Or.inl ⟨(by unfold rfP rowP; (try simp only [Int.reduceToNat, Nat.reduceAdd, Nat.add_zero] at *); (try simp only [hw0, hw1, hw2, hw3, hw4]); omega), rfl⟩ | exact Or.inr ⟨(by unfold rfP rowP; (try simp only [Int.reduceToNat, Nat.reduceAdd, Nat.add_zero] at *); (try simp only [hw0, hw1, hw2, hw3, hw4]); omega), by subst hw0 hw1 hw2 hw3 hw4; exact s121⟩
            · refine AW.iconst (pc' := 130) dX11_runFromRow_129 ?_
              refine AW.goto (tgt := 134) dX11_runFromRow_130 ?_
              refine AW.zret dX11_runFromRow_134 ?_ ?_ (by first | exact Or.inl rfl | exact Or.inr rfl | exact b2_01 _ | assumption | (subst_vars; omega))
              · first | exact congrArg (fun z : Int => (some (vI z) : Option AV)) (b2_t (by unfold rfP rowP; (try simp only [Int.reduceToNat, Nat.reduceAdd, Nat.add_zero] at *); (try simp only [hw0, hw1, hw2, hw3, hw4]); omega)) | exact congrArg (fun z : Int => (some (vI z) : Option AV)) (b2_f (by unfold rfP rowP; (try simp only [Int.reduceToNat, Nat.reduceAdd, Nat.add_zero] at *); (try simp only [hw0, hw1, hw2, hw3, hw4]); omega)) | exact congrArg (fun z : Int => (some (vI z) : Option AV)) (b2_t (by unfold rfP rowP; (try simp only [Int.reduceToNat, Nat.reduceAdd, Nat.add_zero] at *); (try simp only [hw0, hw1, hw2, hw3, hw4]); omega)).symm | exact congrArg (fun z : Int => (some (vI z) : Option AV)) (b2_f (by unfold rfP rowP; (try simp only [Int.reduceToNat, Nat.reduceAdd, Nat.add_zero] at *); (try simp only [hw0, hw1, hw2, hw3, hw4]); omega)).symm
              · first | exact Or.inl ⟨(by unfold rfP rowP; (try simp only [Int.reduceToNat, Nat.reduceAdd, Nat.add_zero] at *); (try simp only [hw0, hw1, hw2, hw3, hw4]); omega), rfl⟩ | exact Or.inr ⟨(by unfold rfP rowP; (try simp only [Int.reduceToNat, Nat.reduceAdd, Nat.add_zero] at *); (try simp only [hw0, hw1, hw2, hw3, hw4]); omega), by subst hw0 hw1 hw2 hw3 hw4; exact s121⟩
          · skip
            refine AW.aload_n (pc' := 108) dX11_runFromRow_107 rfl ?_
            refine AW.getR (pc' := 111) dX11_runFromRow_108 ly_0 fX11_35 rfl ?_
            refine AW.iload (pc' := 113) dX11_runFromRow_111 rfl ?_
            refine AW.iload (pc' := 115) dX11_runFromRow_113 rfl ?_
            refine AW.iload (pc' := 117) dX11_runFromRow_115 rfl ?_
            refine AW.iload (pc' := 119) dX11_runFromRow_117 rfl ?_
            refine AW.iload (pc' := 121) dX11_runFromRow_119 rfl ?_
            refine AW.invQ5 (pc' := 124) dX11_runFromRow_121 mlX11_108 mX7_come ly_12 rfl (c_X7_come (dep := dep - 1) (by omega) (by omega) hQ1 hQ2 (by first | assumption | omega | (constructor <;> omega) | (simp only [Int.toNat_natCast]; omega) | exact b2_in _) (by first | assumption | omega | (constructor <;> omega) | (simp only [Int.toNat_natCast]; omega) | exact b2_in _) (by first | assumption | omega | (constructor <;> omega) | (simp only [Int.toNat_natCast]; omega) | exact b2_in _) (by first | assumption | omega | (constructor <;> omega) | (simp only [Int.toNat_natCast]; omega) | exact b2_in _) (by first | assumption | omega | (constructor <;> omega) | (simp only [Int.toNat_natCast]; omega) | exact b2_in _)) (fun h121 s121 => ?_)
            try simp only [Int.toNat_natCast, Int.reduceToNat, f1, f2, f3, f4]
            refine AW.bipush (pc' := 126) dX11_runFromRow_124 (by decide) ?_
            refine AW.icmp_eq (tgt := 133) (pc' := 129) dX11_runFromRow_126 (by first | assumption | omega | (constructor <;> omega) | (simp only [Int.toNat_natCast]; omega) | exact b2_in _) (by first | assumption | omega | (constructor <;> omega) | (simp only [Int.toNat_natCast]; omega) | exact b2_in _) (fun c126 => ?_) (fun c126 => ?_)
            · refine AW.iconst (pc' := 134) dX11_runFromRow_133 ?_
              refine AW.zret dX11_runFromRow_134 ?_ ?_ (by first | exact Or.inl rfl | exact Or.inr rfl | exact b2_01 _ | assumption | (subst_vars; omega))
              · first | exact congrArg (fun z : Int => (some (vI z) : Option AV)) (b2_t (by unfold rfP rowP; (try simp only [Int.reduceToNat, Nat.reduceAdd, Nat.add_zero] at *); (try simp only [hw0, hw1, hw2, hw3, hw4]); omega)) | exact congrArg (fun z : Int => (some (vI z) : Option AV)) (b2_f (by unfold rfP rowP; (try simp only [Int.reduceToNat, Nat.reduceAdd, Nat.add_zero] at *); (try simp only [hw0, hw1, hw2, hw3, hw4]); omega)) | exact congrArg (fun z : Int => (some (vI z) : Option AV)) (b2_t (by unfold rfP rowP; (try simp only [Int.reduceToNat, Nat.reduceAdd, Nat.add_zero] at *); (try simp only [hw0, hw1, hw2, hw3, hw4]); omega)).symm | exact congrArg (fun z : Int => (some (vI z) : Option AV)) (b2_f (by unfold rfP rowP; (try simp only [Int.reduceToNat, Nat.reduceAdd, Nat.add_zero] at *); (try simp only [hw0, hw1, hw2, hw3, hw4]); omega)).symm
              · first | exact Or.inl ⟨(by unfold rfP rowP; (try simp only [Int.reduceToNat, Nat.reduceAdd, Nat.add_zero] at *); (try simp only [hw0, hw1, hw2, hw3, hw4]); omega), rfl⟩ | exact Or.inr ⟨(by unfold rfP rowP; (try simp only [Int.reduceToNat, Nat.reduceAdd, Nat.add_zero] at *); (try simp only [hw0, hw1, hw2, hw3, hw4]); omega), by subst hw0 hw1 hw2 hw3 hw4; exact s121⟩
            · refine AW.iconst (pc' := 130) dX11_runFromRow_129 ?_
              refine AW.goto (tgt := 134) dX11_runFromRow_130 ?_
              refine AW.zret dX11_runFromRow_134 ?_ ?_ (by first | exact Or.inl rfl | exact Or.inr rfl | exact b2_01 _ | assumption | (subst_vars; omega))
              · first | exact congrArg (fun z : Int => (some (vI z) : Option AV)) (b2_t (by unfold rfP rowP; (try simp only [Int.reduceToNat, Nat.reduceAdd, Nat.add_zero] at *); (try simp only [hw0, hw1, hw2, hw3, hw4]); omega)) | exact congrArg (fun z : Int => (some (vI z) : Option AV)) (b2_f (by unfold rfP rowP; (try simp only [Int.reduceToNat, Nat.reduceAdd, Nat.add_zero] at *); (try simp only [hw0, hw1, hw2, hw3, hw4]); omega)) | exact congrArg (fun z : Int => (some (vI z) : Option AV)) (b2_t (by unfold rfP rowP; (try simp only [Int.reduceToNat, Nat.reduceAdd, Nat.add_zero] at *); (try simp only [hw0, hw1, hw2, hw3, hw4]); omega)).symm | exact congrArg (fun z : Int => (some (vI z) : Option AV)) (b2_f (by unfold rfP rowP; (try simp only [Int.reduceToNat, Nat.reduceAdd, Nat.add_zero] at *); (try simp only [hw0, hw1, hw2, hw3, hw4]); omega)).symm
              · first | exact Or.inl ⟨(by unfold rfP rowP; (try simp only [Int.reduceToNat, Nat.reduceAdd, Nat.add_zero] at *); (try simp only [hw0, hw1, hw2, hw3, hw4]); omega), rfl⟩ | exact Or.inr ⟨(by unfold rfP rowP; (try simp only [Int.reduceToNat, Nat.reduceAdd, Nat.add_zero] at *); (try simp only [hw0, hw1, hw2, hw3, hw4]); omega), by subst hw0 hw1 hw2 hw3 hw4; exact s121⟩
      by_cases v35_1 : a = 1
      · subst v35_1
        refine AW.aaldL (t := 52) (pc' := 36) dX11_runFromRow_35 ly_50 (by decide) (by decide) (by decide) rfl ?_
        refine AW.astore4 (pc' := 38) dX11_runFromRow_36 (by decide) rfl ?_
        have f1 : (b + 1).toNat = b.toNat + 1 := by omega
        have f2 : (b + 2).toNat = b.toNat + 2 := by omega
        have f3 : (b + 3).toNat = b.toNat + 3 := by omega
        have f4 : (b + 4).toNat = b.toNat + 4 := by omega
        refine AW.lload_n (pc' := 39) dX11_runFromRow_38 rfl ?_
        refine AW.l2i (pc' := 40) dX11_runFromRow_39 ?_
        refine AW.istore5 (pc' := 42) dX11_runFromRow_40 (by decide) rfl ?_
        refine AW.aload (pc' := 44) dX11_runFromRow_42 rfl ?_
        refine AW.iload (pc' := 46) dX11_runFromRow_44 rfl ?_
        first | refine AW.laldN (pc' := 47) dX11_runFromRow_46 ly_52 (by first | assumption | omega | (constructor <;> omega) | (simp only [Int.toNat_natCast]; omega) | exact b2_in _) (by decide) (fun r46 => ?_) | refine AW.lald (pc' := 47) dX11_runFromRow_46 ly_52 (by first | assumption | omega | (constructor <;> omega) | (simp only [Int.toNat_natCast]; omega) | exact b2_in _) (by first | assumption | omega | (constructor <;> omega) | (simp only [Int.toNat_natCast]; omega) | exact b2_in _) (by decide) (fun r46 => ?_)
        try simp only [Int.reduceToNat, f1, f2, f3, f4] at r46 ⊢
        refine AW.l2i (pc' := 48) dX11_runFromRow_47 ?_
        refine AW.cong (b := wr (h (51 + 1) (b.toNat))) (wr_of _) ?_
        have i0 := wr_in (h (51 + 1) (b.toNat))
        generalize hw0 : wr (h (51 + 1) (b.toNat)) = w0 at i0 ⊢
        refine AW.istore6 (pc' := 50) dX11_runFromRow_48 (by decide) rfl ?_
        refine AW.aload (pc' := 52) dX11_runFromRow_50 rfl ?_
        refine AW.iload (pc' := 54) dX11_runFromRow_52 rfl ?_
        refine AW.iconst (pc' := 55) dX11_runFromRow_54 ?_
        refine AW.iadd (pc' := 56) dX11_runFromRow_55 ?_
        first | refine AW.laldN (pc' := 57) dX11_runFromRow_56 ly_52 (by first | assumption | omega | (constructor <;> omega) | (simp only [Int.toNat_natCast]; omega) | exact b2_in _) (by decide) (fun r56 => ?_) | refine AW.lald (pc' := 57) dX11_runFromRow_56 ly_52 (by first | assumption | omega | (constructor <;> omega) | (simp only [Int.toNat_natCast]; omega) | exact b2_in _) (by first | assumption | omega | (constructor <;> omega) | (simp only [Int.toNat_natCast]; omega) | exact b2_in _) (by decide) (fun r56 => ?_)
        try simp only [Int.reduceToNat, f1, f2, f3, f4] at r56 ⊢
        refine AW.l2i (pc' := 58) dX11_runFromRow_57 ?_
        refine AW.cong (b := wr (h (51 + 1) (b.toNat + 1))) (wr_of _) ?_
        have i1 := wr_in (h (51 + 1) (b.toNat + 1))
        generalize hw1 : wr (h (51 + 1) (b.toNat + 1)) = w1 at i1 ⊢
        refine AW.istore7 (pc' := 60) dX11_runFromRow_58 (by decide) rfl ?_
        refine AW.aload (pc' := 62) dX11_runFromRow_60 rfl ?_
        refine AW.iload (pc' := 64) dX11_runFromRow_62 rfl ?_
        refine AW.iconst (pc' := 65) dX11_runFromRow_64 ?_
        refine AW.iadd (pc' := 66) dX11_runFromRow_65 ?_
        first | refine AW.laldN (pc' := 67) dX11_runFromRow_66 ly_52 (by first | assumption | omega | (constructor <;> omega) | (simp only [Int.toNat_natCast]; omega) | exact b2_in _) (by decide) (fun r66 => ?_) | refine AW.lald (pc' := 67) dX11_runFromRow_66 ly_52 (by first | assumption | omega | (constructor <;> omega) | (simp only [Int.toNat_natCast]; omega) | exact b2_in _) (by first | assumption | omega | (constructor <;> omega) | (simp only [Int.toNat_natCast]; omega) | exact b2_in _) (by decide) (fun r66 => ?_)
        try simp only [Int.reduceToNat, f1, f2, f3, f4] at r66 ⊢
        refine AW.l2i (pc' := 68) dX11_runFromRow_67 ?_
        refine AW.cong (b := wr (h (51 + 1) (b.toNat + 2))) (wr_of _) ?_
        have i2 := wr_in (h (51 + 1) (b.toNat + 2))
        generalize hw2 : wr (h (51 + 1) (b.toNat + 2)) = w2 at i2 ⊢
        refine AW.istore8 (pc' := 70) dX11_runFromRow_68 (by decide) rfl ?_
        refine AW.aload (pc' := 72) dX11_runFromRow_70 rfl ?_
        refine AW.iload (pc' := 74) dX11_runFromRow_72 rfl ?_
        refine AW.iconst (pc' := 75) dX11_runFromRow_74 ?_
        refine AW.iadd (pc' := 76) dX11_runFromRow_75 ?_
        first | refine AW.laldN (pc' := 77) dX11_runFromRow_76 ly_52 (by first | assumption | omega | (constructor <;> omega) | (simp only [Int.toNat_natCast]; omega) | exact b2_in _) (by decide) (fun r76 => ?_) | refine AW.lald (pc' := 77) dX11_runFromRow_76 ly_52 (by first | assumption | omega | (constructor <;> omega) | (simp only [Int.toNat_natCast]; omega) | exact b2_in _) (by first | assumption | omega | (constructor <;> omega) | (simp only [Int.toNat_natCast]; omega) | exact b2_in _) (by decide) (fun r76 => ?_)
        try simp only [Int.reduceToNat, f1, f2, f3, f4] at r76 ⊢
        refine AW.l2i (pc' := 78) dX11_runFromRow_77 ?_
        refine AW.cong (b := wr (h (51 + 1) (b.toNat + 3))) (wr_of _) ?_
        have i3 := wr_in (h (51 + 1) (b.toNat + 3))
        generalize hw3 : wr (h (51 + 1) (b.toNat + 3)) = w3 at i3 ⊢
        refine AW.istore9 (pc' := 80) dX11_runFromRow_78 (by decide) rfl ?_
        refine AW.aload (pc' := 82) dX11_runFromRow_80 rfl ?_
        refine AW.iload (pc' := 84) dX11_runFromRow_82 rfl ?_
        refine AW.iconst (pc' := 85) dX11_runFromRow_84 ?_
        refine AW.iadd (pc' := 86) dX11_runFromRow_85 ?_
        first | refine AW.laldN (pc' := 87) dX11_runFromRow_86 ly_52 (by first | assumption | omega | (constructor <;> omega) | (simp only [Int.toNat_natCast]; omega) | exact b2_in _) (by decide) (fun r86 => ?_) | refine AW.lald (pc' := 87) dX11_runFromRow_86 ly_52 (by first | assumption | omega | (constructor <;> omega) | (simp only [Int.toNat_natCast]; omega) | exact b2_in _) (by first | assumption | omega | (constructor <;> omega) | (simp only [Int.toNat_natCast]; omega) | exact b2_in _) (by decide) (fun r86 => ?_)
        try simp only [Int.reduceToNat, f1, f2, f3, f4] at r86 ⊢
        refine AW.l2i (pc' := 88) dX11_runFromRow_87 ?_
        refine AW.cong (b := wr (h (51 + 1) (b.toNat + 4))) (wr_of _) ?_
        have i4 := wr_in (h (51 + 1) (b.toNat + 4))
        generalize hw4 : wr (h (51 + 1) (b.toNat + 4)) = w4 at i4 ⊢
        refine AW.istore10 (pc' := 90) dX11_runFromRow_88 (by decide) rfl ?_
        refine AW.aload_n (pc' := 91) dX11_runFromRow_90 rfl ?_
        refine AW.iload (pc' := 93) dX11_runFromRow_91 rfl ?_
        refine AW.iload (pc' := 95) dX11_runFromRow_93 rfl ?_
        refine AW.iload (pc' := 97) dX11_runFromRow_95 rfl ?_
        refine AW.iload (pc' := 99) dX11_runFromRow_97 rfl ?_
        refine AW.iload (pc' := 101) dX11_runFromRow_99 rfl ?_
        refine AW.invV5 (pc' := 104) dX11_runFromRow_101 mlX11_104 mX11_isRun ly_0 rfl (c_X11_isRun (dep := dep - 1) (by first | assumption | omega | (constructor <;> omega) | (simp only [Int.toNat_natCast]; omega) | exact b2_in _) (by first | assumption | omega | (constructor <;> omega) | (simp only [Int.toNat_natCast]; omega) | exact b2_in _) (by first | assumption | omega | (constructor <;> omega) | (simp only [Int.toNat_natCast]; omega) | exact b2_in _) (by first | assumption | omega | (constructor <;> omega) | (simp only [Int.toNat_natCast]; omega) | exact b2_in _) (by first | assumption | omega | (constructor <;> omega) | (simp only [Int.toNat_natCast]; omega) | exact b2_in _) (by first | assumption | omega | (constructor <;> omega) | (simp only [Int.toNat_natCast]; omega) | exact b2_in _)) ?_
        try simp only [Int.toNat_natCast, Int.reduceToNat, f1, f2, f3, f4]
        refine AW.ifb_eq (tgt := 133) (pc' := 107) dX11_runFromRow_104 (fun c104 => ?_) (fun c104 => ?_)
        · refine AW.iconst (pc' := 134) dX11_runFromRow_133 ?_
          refine AW.zret dX11_runFromRow_134 ?_ ?_ (by first | exact Or.inl rfl | exact Or.inr rfl | exact b2_01 _ | assumption | (subst_vars; omega))
          · first | exact congrArg (fun z : Int => (some (vI z) : Option AV)) (b2_t (by unfold rfP rowP; (try simp only [Int.reduceToNat, Nat.reduceAdd, Nat.add_zero] at *); (try simp only [hw0, hw1, hw2, hw3, hw4]); omega)) | exact congrArg (fun z : Int => (some (vI z) : Option AV)) (b2_f (by unfold rfP rowP; (try simp only [Int.reduceToNat, Nat.reduceAdd, Nat.add_zero] at *); (try simp only [hw0, hw1, hw2, hw3, hw4]); omega)) | exact congrArg (fun z : Int => (some (vI z) : Option AV)) (b2_t (by unfold rfP rowP; (try simp only [Int.reduceToNat, Nat.reduceAdd, Nat.add_zero] at *); (try simp only [hw0, hw1, hw2, hw3, hw4]); omega)).symm | exact congrArg (fun z : Int => (some (vI z) : Option AV)) (b2_f (by unfold rfP rowP; (try simp only [Int.reduceToNat, Nat.reduceAdd, Nat.add_zero] at *); (try simp only [hw0, hw1, hw2, hw3, hw4]); omega)).symm
          · first | exact Or.inl ⟨(by unfold rfP rowP; (try simp only [Int.reduceToNat, Nat.reduceAdd, Nat.add_zero] at *); (try simp only [hw0, hw1, hw2, hw3, hw4]); omega), rfl⟩ | exact Or.inr ⟨(by unfold rfP rowP; (try simp only [Int.reduceToNat, Nat.reduceAdd, Nat.add_zero] at *); (try simp only [hw0, hw1, hw2, hw3, hw4]); omega), by subst hw0 hw1 hw2 hw3 hw4; exact s121⟩
        · by_cases full : 120 ≤ h 12 10
          · skip
            refine AW.aload_n (pc' := 108) dX11_runFromRow_107 rfl ?_
            refine AW.getR (pc' := 111) dX11_runFromRow_108 ly_0 fX11_35 rfl ?_
            refine AW.iload (pc' := 113) dX11_runFromRow_111 rfl ?_
            refine AW.iload (pc' := 115) dX11_runFromRow_113 rfl ?_
            refine AW.iload (pc' := 117) dX11_runFromRow_115 rfl ?_
            refine AW.iload (pc' := 119) dX11_runFromRow_117 rfl ?_
            refine AW.iload (pc' := 121) dX11_runFromRow_119 rfl ?_
            refine AW.invV5 (pc' := 124) dX11_runFromRow_121 mlX11_108 mX7_come ly_12 rfl (c_X7_comeFull (dep := dep - 1) (by first | assumption | omega | (constructor <;> omega) | (simp only [Int.toNat_natCast]; omega) | exact b2_in _) (by first | assumption | omega | (constructor <;> omega) | (simp only [Int.toNat_natCast]; omega) | exact b2_in _) (by first | assumption | omega | (constructor <;> omega) | (simp only [Int.toNat_natCast]; omega) | exact b2_in _) (by first | assumption | omega | (constructor <;> omega) | (simp only [Int.toNat_natCast]; omega) | exact b2_in _) (by first | assumption | omega | (constructor <;> omega) | (simp only [Int.toNat_natCast]; omega) | exact b2_in _) (by first | assumption | omega | (constructor <;> omega) | (simp only [Int.toNat_natCast]; omega) | exact b2_in _)) ?_
            try simp only [Int.toNat_natCast, Int.reduceToNat, f1, f2, f3, f4]
            refine AW.bipush (pc' := 126) dX11_runFromRow_124 (by decide) ?_
            refine AW.icmp_eq (tgt := 133) (pc' := 129) dX11_runFromRow_126 (by first | assumption | omega | (constructor <;> omega) | (simp only [Int.toNat_natCast]; omega) | exact b2_in _) (by first | assumption | omega | (constructor <;> omega) | (simp only [Int.toNat_natCast]; omega) | exact b2_in _) (fun c126 => ?_) (fun c126 => ?_)
            · refine AW.iconst (pc' := 134) dX11_runFromRow_133 ?_
              refine AW.zret dX11_runFromRow_134 ?_ ?_ (by first | exact Or.inl rfl | exact Or.inr rfl | exact b2_01 _ | assumption | (subst_vars; omega))
              · first | exact congrArg (fun z : Int => (some (vI z) : Option AV)) (b2_t (by unfold rfP rowP; (try simp only [Int.reduceToNat, Nat.reduceAdd, Nat.add_zero] at *); (try simp only [hw0, hw1, hw2, hw3, hw4]); omega)) | exact congrArg (fun z : Int => (some (vI z) : Option AV)) (b2_f (by unfold rfP rowP; (try simp only [Int.reduceToNat, Nat.reduceAdd, Nat.add_zero] at *); (try simp only [hw0, hw1, hw2, hw3, hw4]); omega)) | exact congrArg (fun z : Int => (some (vI z) : Option AV)) (b2_t (by unfold rfP rowP; (try simp only [Int.reduceToNat, Nat.reduceAdd, Nat.add_zero] at *); (try simp only [hw0, hw1, hw2, hw3, hw4]); omega)).symm | exact congrArg (fun z : Int => (some (vI z) : Option AV)) (b2_f (by unfold rfP rowP; (try simp only [Int.reduceToNat, Nat.reduceAdd, Nat.add_zero] at *); (try simp only [hw0, hw1, hw2, hw3, hw4]); omega)).symm
              · first | exact Or.inl ⟨(by unfold rfP rowP; (try simp only [Int.reduceToNat, Nat.reduceAdd, Nat.add_zero] at *); (try simp only [hw0, hw1, hw2, hw3, hw4]); omega), rfl⟩ | exact Or.inr ⟨(by unfold rfP rowP; (try simp only [Int.reduceToNat, Nat.reduceAdd, Nat.add_zero] at *); (try simp only [hw0, hw1, hw2, hw3, hw4]); omega), by subst hw0 hw1 hw2 hw3 hw4; exact s121⟩
            · refine AW.iconst (pc' := 130) dX11_runFromRow_129 ?_
              refine AW.goto (tgt := 134) dX11_runFromRow_130 ?_
              refine AW.zret dX11_runFromRow_134 ?_ ?_ (by first | exact Or.inl rfl | exact Or.inr rfl | exact b2_01 _ | assumption | (subst_vars; omega))
              · first | exact congrArg (fun z : Int => (some (vI z) : Option AV)) (b2_t (by unfold rfP rowP; (try simp only [Int.reduceToNat, Nat.reduceAdd, Nat.add_zero] at *); (try simp only [hw0, hw1, hw2, hw3, hw4]); omega)) | exact congrArg (fun z : Int => (some (vI z) : Option AV)) (b2_f (by unfold rfP rowP; (try simp only [Int.reduceToNat, Nat.reduceAdd, Nat.add_zero] at *); (try simp only [hw0, hw1, hw2, hw3, hw4]); omega)) | exact congrArg (fun z : Int => (some (vI z) : Option AV)) (b2_t (by unfold rfP rowP; (try simp only [Int.reduceToNat, Nat.reduceAdd, Nat.add_zero] at *); (try simp only [hw0, hw1, hw2, hw3, hw4]); omega)).symm | exact congrArg (fun z : Int => (some (vI z) : Option AV)) (b2_f (by unfold rfP rowP; (try simp only [Int.reduceToNat, Nat.reduceAdd, Nat.add_zero] at *); (try simp only [hw0, hw1, hw2, hw3, hw4]); omega)).symm
              · first | exact Or.inl ⟨(by unfold rfP rowP; (try simp only [Int.reduceToNat, Nat.reduceAdd, Nat.add_zero] at *); (try simp only [hw0, hw1, hw2, hw3, hw4]); omega), rfl⟩ | exact Or.inr ⟨(by unfold rfP rowP; (try simp only [Int.reduceToNat, Nat.reduceAdd, Nat.add_zero] at *); (try simp only [hw0, hw1, hw2, hw3, hw4]); omega), by subst hw0 hw1 hw2 hw3 hw4; exact s121⟩
          · skip
            refine AW.aload_n (pc' := 108) dX11_runFromRow_107 rfl ?_
            refine AW.getR (pc' := 111) dX11_runFromRow_108 ly_0 fX11_35 rfl ?_
            refine AW.iload (pc' := 113) dX11_runFromRow_111 rfl ?_
            refine AW.iload (pc' := 115) dX11_runFromRow_113 rfl ?_
            refine AW.iload (pc' := 117) dX11_runFromRow_115 rfl ?_
            refine AW.iload (pc' := 119) dX11_runFromRow_117 rfl ?_
            refine AW.iload (pc' := 121) dX11_runFromRow_119 rfl ?_
            refine AW.invQ5 (pc' := 124) dX11_runFromRow_121 mlX11_108 mX7_come ly_12 rfl (c_X7_come (dep := dep - 1) (by omega) (by omega) hQ1 hQ2 (by first | assumption | omega | (constructor <;> omega) | (simp only [Int.toNat_natCast]; omega) | exact b2_in _) (by first | assumption | omega | (constructor <;> omega) | (simp only [Int.toNat_natCast]; omega) | exact b2_in _) (by first | assumption | omega | (constructor <;> omega) | (simp only [Int.toNat_natCast]; omega) | exact b2_in _) (by first | assumption | omega | (constructor <;> omega) | (simp only [Int.toNat_natCast]; omega) | exact b2_in _) (by first | assumption | omega | (constructor <;> omega) | (simp only [Int.toNat_natCast]; omega) | exact b2_in _)) (fun h121 s121 => ?_)
            try simp only [Int.toNat_natCast, Int.reduceToNat, f1, f2, f3, f4]
            refine AW.bipush (pc' := 126) dX11_runFromRow_124 (by decide) ?_
            refine AW.icmp_eq (tgt := 133) (pc' := 129) dX11_runFromRow_126 (by first | assumption | omega | (constructor <;> omega) | (simp only [Int.toNat_natCast]; omega) | exact b2_in _) (by first | assumption | omega | (constructor <;> omega) | (simp only [Int.toNat_natCast]; omega) | exact b2_in _) (fun c126 => ?_) (fun c126 => ?_)
            · refine AW.iconst (pc' := 134) dX11_runFromRow_133 ?_
              refine AW.zret dX11_runFromRow_134 ?_ ?_ (by first | exact Or.inl rfl | exact Or.inr rfl | exact b2_01 _ | assumption | (subst_vars; omega))
              · first | exact congrArg (fun z : Int => (some (vI z) : Option AV)) (b2_t (by unfold rfP rowP; (try simp only [Int.reduceToNat, Nat.reduceAdd, Nat.add_zero] at *); (try simp only [hw0, hw1, hw2, hw3, hw4]); omega)) | exact congrArg (fun z : Int => (some (vI z) : Option AV)) (b2_f (by unfold rfP rowP; (try simp only [Int.reduceToNat, Nat.reduceAdd, Nat.add_zero] at *); (try simp only [hw0, hw1, hw2, hw3, hw4]); omega)) | exact congrArg (fun z : Int => (some (vI z) : Option AV)) (b2_t (by unfold rfP rowP; (try simp only [Int.reduceToNat, Nat.reduceAdd, Nat.add_zero] at *); (try simp only [hw0, hw1, hw2, hw3, hw4]); omega)).symm | exact congrArg (fun z : Int => (some (vI z) : Option AV)) (b2_f (by unfold rfP rowP; (try simp only [Int.reduceToNat, Nat.reduceAdd, Nat.add_zero] at *); (try simp only [hw0, hw1, hw2, hw3, hw4]); omega)).symm
              · first | exact Or.inl ⟨(by unfold rfP rowP; (try simp only [Int.reduceToNat, Nat.reduceAdd, Nat.add_zero] at *); (try simp only [hw0, hw1, hw2, hw3, hw4]); omega), rfl⟩ | exact Or.inr ⟨(by unfold rfP rowP; (try simp only [Int.reduceToNat, Nat.reduceAdd, Nat.add_zero] at *); (try simp only [hw0, hw1, hw2, hw3, hw4]); omega), by subst hw0 hw1 hw2 hw3 hw4; exact s121⟩
            · refine AW.iconst (pc' := 130) dX11_runFromRow_129 ?_
              refine AW.goto (tgt := 134) dX11_runFromRow_130 ?_
              refine AW.zret dX11_runFromRow_134 ?_ ?_ (by first | exact Or.inl rfl | exact Or.inr rfl | exact b2_01 _ | assumption | (subst_vars; omega))
              · first | exact congrArg (fun z : Int => (some (vI z) : Option AV)) (b2_t (by unfold rfP rowP; (try simp only [Int.reduceToNat, Nat.reduceAdd, Nat.add_zero] at *); (try simp only [hw0, hw1, hw2, hw3, hw4]); omega)) | exact congrArg (fun z : Int => (some (vI z) : Option AV)) (b2_f (by unfold rfP rowP; (try simp only [Int.reduceToNat, Nat.reduceAdd, Nat.add_zero] at *); (try simp only [hw0, hw1, hw2, hw3, hw4]); omega)) | exact congrArg (fun z : Int => (some (vI z) : Option AV)) (b2_t (by unfold rfP rowP; (try simp only [Int.reduceToNat, Nat.reduceAdd, Nat.add_zero] at *); (try simp only [hw0, hw1, hw2, hw3, hw4]); omega)).symm | exact congrArg (fun z : Int => (some (vI z) : Option AV)) (b2_f (by unfold rfP rowP; (try simp only [Int.reduceToNat, Nat.reduceAdd, Nat.add_zero] at *); (try simp only [hw0, hw1, hw2, hw3, hw4]); omega)).symm
              · first | exact Or.inl ⟨(by unfold rfP rowP; (try simp only [Int.reduceToNat, Nat.reduceAdd, Nat.add_zero] at *); (try simp only [hw0, hw1, hw2, hw3, hw4]); omega), rfl⟩ | exact Or.inr ⟨(by unfold rfP rowP; (try simp only [Int.reduceToNat, Nat.reduceAdd, Nat.add_zero] at *); (try simp only [hw0, hw1, hw2, hw3, hw4]); omega), by subst hw0 hw1 hw2 hw3 hw4; exact s121⟩
      by_cases v35_2 : a = 2
      · subst v35_2
        refine AW.aaldL (t := 53) (pc' := 36) dX11_runFromRow_35 ly_50 (by decide) (by decide) (by decide) rfl ?_
        refine AW.astore4 (pc' := 38) dX11_runFromRow_36 (by decide) rfl ?_
        have f1 : (b + 1).toNat = b.toNat + 1 := by omega
        have f2 : (b + 2).toNat = b.toNat + 2 := by omega
        have f3 : (b + 3).toNat = b.toNat + 3 := by omega
        have f4 : (b + 4).toNat = b.toNat + 4 := by omega
        refine AW.lload_n (pc' := 39) dX11_runFromRow_38 rfl ?_
        refine AW.l2i (pc' := 40) dX11_runFromRow_39 ?_
        refine AW.istore5 (pc' := 42) dX11_runFromRow_40 (by decide) rfl ?_
        refine AW.aload (pc' := 44) dX11_runFromRow_42 rfl ?_
        refine AW.iload (pc' := 46) dX11_runFromRow_44 rfl ?_
        first | refine AW.laldN (pc' := 47) dX11_runFromRow_46 ly_53 (by first | assumption | omega | (constructor <;> omega) | (simp only [Int.toNat_natCast]; omega) | exact b2_in _) (by decide) (fun r46 => ?_) | refine AW.lald (pc' := 47) dX11_runFromRow_46 ly_53 (by first | assumption | omega | (constructor <;> omega) | (simp only [Int.toNat_natCast]; omega) | exact b2_in _) (by first | assumption | omega | (constructor <;> omega) | (simp only [Int.toNat_natCast]; omega) | exact b2_in _) (by decide) (fun r46 => ?_)
        try simp only [Int.reduceToNat, f1, f2, f3, f4] at r46 ⊢
        refine AW.l2i (pc' := 48) dX11_runFromRow_47 ?_
        refine AW.cong (b := wr (h (51 + 2) (b.toNat))) (wr_of _) ?_
        have i0 := wr_in (h (51 + 2) (b.toNat))
        generalize hw0 : wr (h (51 + 2) (b.toNat)) = w0 at i0 ⊢
        refine AW.istore6 (pc' := 50) dX11_runFromRow_48 (by decide) rfl ?_
        refine AW.aload (pc' := 52) dX11_runFromRow_50 rfl ?_
        refine AW.iload (pc' := 54) dX11_runFromRow_52 rfl ?_
        refine AW.iconst (pc' := 55) dX11_runFromRow_54 ?_
        refine AW.iadd (pc' := 56) dX11_runFromRow_55 ?_
        first | refine AW.laldN (pc' := 57) dX11_runFromRow_56 ly_53 (by first | assumption | omega | (constructor <;> omega) | (simp only [Int.toNat_natCast]; omega) | exact b2_in _) (by decide) (fun r56 => ?_) | refine AW.lald (pc' := 57) dX11_runFromRow_56 ly_53 (by first | assumption | omega | (constructor <;> omega) | (simp only [Int.toNat_natCast]; omega) | exact b2_in _) (by first | assumption | omega | (constructor <;> omega) | (simp only [Int.toNat_natCast]; omega) | exact b2_in _) (by decide) (fun r56 => ?_)
        try simp only [Int.reduceToNat, f1, f2, f3, f4] at r56 ⊢
        refine AW.l2i (pc' := 58) dX11_runFromRow_57 ?_
        refine AW.cong (b := wr (h (51 + 2) (b.toNat + 1))) (wr_of _) ?_
        have i1 := wr_in (h (51 + 2) (b.toNat + 1))
        generalize hw1 : wr (h (51 + 2) (b.toNat + 1)) = w1 at i1 ⊢
        refine AW.istore7 (pc' := 60) dX11_runFromRow_58 (by decide) rfl ?_
        refine AW.aload (pc' := 62) dX11_runFromRow_60 rfl ?_
        refine AW.iload (pc' := 64) dX11_runFromRow_62 rfl ?_
        refine AW.iconst (pc' := 65) dX11_runFromRow_64 ?_
        refine AW.iadd (pc' := 66) dX11_runFromRow_65 ?_
        first | refine AW.laldN (pc' := 67) dX11_runFromRow_66 ly_53 (by first | assumption | omega | (constructor <;> omega) | (simp only [Int.toNat_natCast]; omega) | exact b2_in _) (by decide) (fun r66 => ?_) | refine AW.lald (pc' := 67) dX11_runFromRow_66 ly_53 (by first | assumption | omega | (constructor <;> omega) | (simp only [Int.toNat_natCast]; omega) | exact b2_in _) (by first | assumption | omega | (constructor <;> omega) | (simp only [Int.toNat_natCast]; omega) | exact b2_in _) (by decide) (fun r66 => ?_)
        try simp only [Int.reduceToNat, f1, f2, f3, f4] at r66 ⊢
        refine AW.l2i (pc' := 68) dX11_runFromRow_67 ?_
        refine AW.cong (b := wr (h (51 + 2) (b.toNat + 2))) (wr_of _) ?_
        have i2 := wr_in (h (51 + 2) (b.toNat + 2))
        generalize hw2 : wr (h (51 + 2) (b.toNat + 2)) = w2 at i2 ⊢
        refine AW.istore8 (pc' := 70) dX11_runFromRow_68 (by decide) rfl ?_
        refine AW.aload (pc' := 72) dX11_runFromRow_70 rfl ?_
        refine AW.iload (pc' := 74) dX11_runFromRow_72 rfl ?_
        refine AW.iconst (pc' := 75) dX11_runFromRow_74 ?_
        refine AW.iadd (pc' := 76) dX11_runFromRow_75 ?_
        first | refine AW.laldN (pc' := 77) dX11_runFromRow_76 ly_53 (by first | assumption | omega | (constructor <;> omega) | (simp only [Int.toNat_natCast]; omega) | exact b2_in _) (by decide) (fun r76 => ?_) | refine AW.lald (pc' := 77) dX11_runFromRow_76 ly_53 (by first | assumption | omega | (constructor <;> omega) | (simp only [Int.toNat_natCast]; omega) | exact b2_in _) (by first | assumption | omega | (constructor <;> omega) | (simp only [Int.toNat_natCast]; omega) | exact b2_in _) (by decide) (fun r76 => ?_)
        try simp only [Int.reduceToNat, f1, f2, f3, f4] at r76 ⊢
        refine AW.l2i (pc' := 78) dX11_runFromRow_77 ?_
        refine AW.cong (b := wr (h (51 + 2) (b.toNat + 3))) (wr_of _) ?_
        have i3 := wr_in (h (51 + 2) (b.toNat + 3))
        generalize hw3 : wr (h (51 + 2) (b.toNat + 3)) = w3 at i3 ⊢
        refine AW.istore9 (pc' := 80) dX11_runFromRow_78 (by decide) rfl ?_
        refine AW.aload (pc' := 82) dX11_runFromRow_80 rfl ?_
        refine AW.iload (pc' := 84) dX11_runFromRow_82 rfl ?_
        refine AW.iconst (pc' := 85) dX11_runFromRow_84 ?_
        refine AW.iadd (pc' := 86) dX11_runFromRow_85 ?_
        first | refine AW.laldN (pc' := 87) dX11_runFromRow_86 ly_53 (by first | assumption | omega | (constructor <;> omega) | (simp only [Int.toNat_natCast]; omega) | exact b2_in _) (by decide) (fun r86 => ?_) | refine AW.lald (pc' := 87) dX11_runFromRow_86 ly_53 (by first | assumption | omega | (constructor <;> omega) | (simp only [Int.toNat_natCast]; omega) | exact b2_in _) (by first | assumption | omega | (constructor <;> omega) | (simp only [Int.toNat_natCast]; omega) | exact b2_in _) (by decide) (fun r86 => ?_)
        try simp only [Int.reduceToNat, f1, f2, f3, f4] at r86 ⊢
        refine AW.l2i (pc' := 88) dX11_runFromRow_87 ?_
        refine AW.cong (b := wr (h (51 + 2) (b.toNat + 4))) (wr_of _) ?_
        have i4 := wr_in (h (51 + 2) (b.toNat + 4))
        generalize hw4 : wr (h (51 + 2) (b.toNat + 4)) = w4 at i4 ⊢
        refine AW.istore10 (pc' := 90) dX11_runFromRow_88 (by decide) rfl ?_
        refine AW.aload_n (pc' := 91) dX11_runFromRow_90 rfl ?_
        refine AW.iload (pc' := 93) dX11_runFromRow_91 rfl ?_
        refine AW.iload (pc' := 95) dX11_runFromRow_93 rfl ?_
        refine AW.iload (pc' := 97) dX11_runFromRow_95 rfl ?_
        refine AW.iload (pc' := 99) dX11_runFromRow_97 rfl ?_
        refine AW.iload (pc' := 101) dX11_runFromRow_99 rfl ?_
        refine AW.invV5 (pc' := 104) dX11_runFromRow_101 mlX11_104 mX11_isRun ly_0 rfl (c_X11_isRun (dep := dep - 1) (by first | assumption | omega | (constructor <;> omega) | (simp only [Int.toNat_natCast]; omega) | exact b2_in _) (by first | assumption | omega | (constructor <;> omega) | (simp only [Int.toNat_natCast]; omega) | exact b2_in _) (by first | assumption | omega | (constructor <;> omega) | (simp only [Int.toNat_natCast]; omega) | exact b2_in _) (by first | assumption | omega | (constructor <;> omega) | (simp only [Int.toNat_natCast]; omega) | exact b2_in _) (by first | assumption | omega | (constructor <;> omega) | (simp only [Int.toNat_natCast]; omega) | exact b2_in _) (by first | assumption | omega | (constructor <;> omega) | (simp only [Int.toNat_natCast]; omega) | exact b2_in _)) ?_
        try simp only [Int.toNat_natCast, Int.reduceToNat, f1, f2, f3, f4]
        refine AW.ifb_eq (tgt := 133) (pc' := 107) dX11_runFromRow_104 (fun c104 => ?_) (fun c104 => ?_)
        · refine AW.iconst (pc' := 134) dX11_runFromRow_133 ?_
          refine AW.zret dX11_runFromRow_134 ?_ ?_ (by first | exact Or.inl rfl | exact Or.inr rfl | exact b2_01 _ | assumption | (subst_vars; omega))
          · first | exact congrArg (fun z : Int => (some (vI z) : Option AV)) (b2_t (by unfold rfP rowP; (try simp only [Int.reduceToNat, Nat.reduceAdd, Nat.add_zero] at *); (try simp only [hw0, hw1, hw2, hw3, hw4]); omega)) | exact congrArg (fun z : Int => (some (vI z) : Option AV)) (b2_f (by unfold rfP rowP; (try simp only [Int.reduceToNat, Nat.reduceAdd, Nat.add_zero] at *); (try simp only [hw0, hw1, hw2, hw3, hw4]); omega)) | exact congrArg (fun z : Int => (some (vI z) : Option AV)) (b2_t (by unfold rfP rowP; (try simp only [Int.reduceToNat, Nat.reduceAdd, Nat.add_zero] at *); (try simp only [hw0, hw1, hw2, hw3, hw4]); omega)).symm | exact congrArg (fun z : Int => (some (vI z) : Option AV)) (b2_f (by unfold rfP rowP; (try simp only [Int.reduceToNat, Nat.reduceAdd, Nat.add_zero] at *); (try simp only [hw0, hw1, hw2, hw3, hw4]); omega)).symm
          · first | exact Or.inl ⟨(by unfold rfP rowP; (try simp only [Int.reduceToNat, Nat.reduceAdd, Nat.add_zero] at *); (try simp only [hw0, hw1, hw2, hw3, hw4]); omega), rfl⟩ | exact Or.inr ⟨(by unfold rfP rowP; (try simp only [Int.reduceToNat, Nat.reduceAdd, Nat.add_zero] at *); (try simp only [hw0, hw1, hw2, hw3, hw4]); omega), by subst hw0 hw1 hw2 hw3 hw4; exact s121⟩
        · by_cases full : 120 ≤ h 12 10
          · skip
            refine AW.aload_n (pc' := 108) dX11_runFromRow_107 rfl ?_
            refine AW.getR (pc' := 111) dX11_runFromRow_108 ly_0 fX11_35 rfl ?_
            refine AW.iload (pc' := 113) dX11_runFromRow_111 rfl ?_
            refine AW.iload (pc' := 115) dX11_runFromRow_113 rfl ?_
            refine AW.iload (pc' := 117) dX11_runFromRow_115 rfl ?_
            refine AW.iload (pc' := 119) dX11_runFromRow_117 rfl ?_
            refine AW.iload (pc' := 121) dX11_runFromRow_119 rfl ?_
            refine AW.invV5 (pc' := 124) dX11_runFromRow_121 mlX11_108 mX7_come ly_12 rfl (c_X7_comeFull (dep := dep - 1) (by first | assumption | omega | (constructor <;> omega) | (simp only [Int.toNat_natCast]; omega) | exact b2_in _) (by first | assumption | omega | (constructor <;> omega) | (simp only [Int.toNat_natCast]; omega) | exact b2_in _) (by first | assumption | omega | (constructor <;> omega) | (simp only [Int.toNat_natCast]; omega) | exact b2_in _) (by first | assumption | omega | (constructor <;> omega) | (simp only [Int.toNat_natCast]; omega) | exact b2_in _) (by first | assumption | omega | (constructor <;> omega) | (simp only [Int.toNat_natCast]; omega) | exact b2_in _) (by first | assumption | omega | (constructor <;> omega) | (simp only [Int.toNat_natCast]; omega) | exact b2_in _)) ?_
            try simp only [Int.toNat_natCast, Int.reduceToNat, f1, f2, f3, f4]
            refine AW.bipush (pc' := 126) dX11_runFromRow_124 (by decide) ?_
            refine AW.icmp_eq (tgt := 133) (pc' := 129) dX11_runFromRow_126 (by first | assumption | omega | (constructor <;> omega) | (simp only [Int.toNat_natCast]; omega) | exact b2_in _) (by first | assumption | omega | (constructor <;> omega) | (simp only [Int.toNat_natCast]; omega) | exact b2_in _) (fun c126 => ?_) (fun c126 => ?_)
            · refine AW.iconst (pc' := 134) dX11_runFromRow_133 ?_
              refine AW.zret dX11_runFromRow_134 ?_ ?_ (by first | exact Or.inl rfl | exact Or.inr rfl | exact b2_01 _ | assumption | (subst_vars; omega))
              · first | exact congrArg (fun z : Int => (some (vI z) : Option AV)) (b2_t (by unfold rfP rowP; (try simp only [Int.reduceToNat, Nat.reduceAdd, Nat.add_zero] at *); (try simp only [hw0, hw1, hw2, hw3, hw4]); omega)) | exact congrArg (fun z : Int => (some (vI z) : Option AV)) (b2_f (by unfold rfP rowP; (try simp only [Int.reduceToNat, Nat.reduceAdd, Nat.add_zero] at *); (try simp only [hw0, hw1, hw2, hw3, hw4]); omega)) | exact congrArg (fun z : Int => (some (vI z) : Option AV)) (b2_t (by unfold rfP rowP; (try simp only [Int.reduceToNat, Nat.reduceAdd, Nat.add_zero] at *); (try simp only [hw0, hw1, hw2, hw3, hw4]); omega)).symm | exact congrArg (fun z : Int => (some (vI z) : Option AV)) (b2_f (by unfold rfP rowP; (try simp only [Int.reduceToNat, Nat.reduceAdd, Nat.add_zero] at *); (try simp only [hw0, hw1, hw2, hw3, hw4]); omega)).symm
              · first | exact Or.inl ⟨(by unfold rfP rowP; (try simp only [Int.reduceToNat, Nat.reduceAdd, Nat.add_zero] at *); (try simp only [hw0, hw1, hw2, hw3, hw4]); omega), rfl⟩ | exact Or.inr ⟨(by unfold rfP rowP; (try simp only [Int.reduceToNat, Nat.reduceAdd, Nat.add_zero] at *); (try simp only [hw0, hw1, hw2, hw3, hw4]); omega), by subst hw0 hw1 hw2 hw3 hw4; exact s121⟩
            · refine AW.iconst (pc' := 130) dX11_runFromRow_129 ?_
              refine AW.goto (tgt := 134) dX11_runFromRow_130 ?_
              refine AW.zret dX11_runFromRow_134 ?_ ?_ (by first | exact Or.inl rfl | exact Or.inr rfl | exact b2_01 _ | assumption | (subst_vars; omega))
              · first | exact congrArg (fun z : Int => (some (vI z) : Option AV)) (b2_t (by unfold rfP rowP; (try simp only [Int.reduceToNat, Nat.reduceAdd, Nat.add_zero] at *); (try simp only [hw0, hw1, hw2, hw3, hw4]); omega)) | exact congrArg (fun z : Int => (some (vI z) : Option AV)) (b2_f (by unfold rfP rowP; (try simp only [Int.reduceToNat, Nat.reduceAdd, Nat.add_zero] at *); (try simp only [hw0, hw1, hw2, hw3, hw4]); omega)) | exact congrArg (fun z : Int => (some (vI z) : Option AV)) (b2_t (by unfold rfP rowP; (try simp only [Int.reduceToNat, Nat.reduceAdd, Nat.add_zero] at *); (try simp only [hw0, hw1, hw2, hw3, hw4]); omega)).symm | exact congrArg (fun z : Int => (some (vI z) : Option AV)) (b2_f (by unfold rfP rowP; (try simp only [Int.reduceToNat, Nat.reduceAdd, Nat.add_zero] at *); (try simp only [hw0, hw1, hw2, hw3, hw4]); omega)).symm
              · first | exact Or.inl ⟨(by unfold rfP rowP; (try simp only [Int.reduceToNat, Nat.reduceAdd, Nat.add_zero] at *); (try simp only [hw0, hw1, hw2, hw3, hw4]); omega), rfl⟩ | exact Or.inr ⟨(by unfold rfP rowP; (try simp only [Int.reduceToNat, Nat.reduceAdd, Nat.add_zero] at *); (try simp only [hw0, hw1, hw2, hw3, hw4]); omega), by subst hw0 hw1 hw2 hw3 hw4; exact s121⟩
          · skip
            refine AW.aload_n (pc' := 108) dX11_runFromRow_107 rfl ?_
            refine AW.getR (pc' := 111) dX11_runFromRow_108 ly_0 fX11_35 rfl ?_
            refine AW.iload (pc' := 113) dX11_runFromRow_111 rfl ?_
            refine AW.iload (pc' := 115) dX11_runFromRow_113 rfl ?_
            refine AW.iload (pc' := 117) dX11_runFromRow_115 rfl ?_
            refine AW.iload (pc' := 119) dX11_runFromRow_117 rfl ?_
            refine AW.iload (pc' := 121) dX11_runFromRow_119 rfl ?_
            refine AW.invQ5 (pc' := 124) dX11_runFromRow_121 mlX11_108 mX7_come ly_12 rfl (c_X7_come (dep := dep - 1) (by omega) (by omega) hQ1 hQ2 (by first | assumption | omega | (constructor <;> omega) | (simp only [Int.toNat_natCast]; omega) | exact b2_in _) (by first | assumption | omega | (constructor <;> omega) | (simp only [Int.toNat_natCast]; omega) | exact b2_in _) (by first | assumption | omega | (constructor <;> omega) | (simp only [Int.toNat_natCast]; omega) | exact b2_in _) (by first | assumption | omega | (constructor <;> omega) | (simp only [Int.toNat_natCast]; omega) | exact b2_in _) (by first | assumption | omega | (constructor <;> omega) | (simp only [Int.toNat_natCast]; omega) | exact b2_in _)) (fun h121 s121 => ?_)
            try simp only [Int.toNat_natCast, Int.reduceToNat, f1, f2, f3, f4]
            refine AW.bipush (pc' := 126) dX11_runFromRow_124 (by decide) ?_
            refine AW.icmp_eq (tgt := 133) (pc' := 129) dX11_runFromRow_126 (by first | assumption | omega | (constructor <;> omega) | (simp only [Int.toNat_natCast]; omega) | exact b2_in _) (by first | assumption | omega | (constructor <;> omega) | (simp only [Int.toNat_natCast]; omega) | exact b2_in _) (fun c126 => ?_) (fun c126 => ?_)
            · refine AW.iconst (pc' := 134) dX11_runFromRow_133 ?_
              refine AW.zret dX11_runFromRow_134 ?_ ?_ (by first | exact Or.inl rfl | exact Or.inr rfl | exact b2_01 _ | assumption | (subst_vars; omega))
              · first | exact congrArg (fun z : Int => (some (vI z) : Option AV)) (b2_t (by unfold rfP rowP; (try simp only [Int.reduceToNat, Nat.reduceAdd, Nat.add_zero] at *); (try simp only [hw0, hw1, hw2, hw3, hw4]); omega)) | exact congrArg (fun z : Int => (some (vI z) : Option AV)) (b2_f (by unfold rfP rowP; (try simp only [Int.reduceToNat, Nat.reduceAdd, Nat.add_zero] at *); (try simp only [hw0, hw1, hw2, hw3, hw4]); omega)) | exact congrArg (fun z : Int => (some (vI z) : Option AV)) (b2_t (by unfold rfP rowP; (try simp only [Int.reduceToNat, Nat.reduceAdd, Nat.add_zero] at *); (try simp only [hw0, hw1, hw2, hw3, hw4]); omega)).symm | exact congrArg (fun z : Int => (some (vI z) : Option AV)) (b2_f (by unfold rfP rowP; (try simp only [Int.reduceToNat, Nat.reduceAdd, Nat.add_zero] at *); (try simp only [hw0, hw1, hw2, hw3, hw4]); omega)).symm
              · first | exact Or.inl ⟨(by unfold rfP rowP; (try simp only [Int.reduceToNat, Nat.reduceAdd, Nat.add_zero] at *); (try simp only [hw0, hw1, hw2, hw3, hw4]); omega), rfl⟩ | exact Or.inr ⟨(by unfold rfP rowP; (try simp only [Int.reduceToNat, Nat.reduceAdd, Nat.add_zero] at *); (try simp only [hw0, hw1, hw2, hw3, hw4]); omega), by subst hw0 hw1 hw2 hw3 hw4; exact s121⟩
            · refine AW.iconst (pc' := 130) dX11_runFromRow_129 ?_
              refine AW.goto (tgt := 134) dX11_runFromRow_130 ?_
              refine AW.zret dX11_runFromRow_134 ?_ ?_ (by first | exact Or.inl rfl | exact Or.inr rfl | exact b2_01 _ | assumption | (subst_vars; omega))
              · first | exact congrArg (fun z : Int => (some (vI z) : Option AV)) (b2_t (by unfold rfP rowP; (try simp only [Int.reduceToNat, Nat.reduceAdd, Nat.add_zero] at *); (try simp only [hw0, hw1, hw2, hw3, hw4]); omega)) | exact congrArg (fun z : Int => (some (vI z) : Option AV)) (b2_f (by unfold rfP rowP; (try simp only [Int.reduceToNat, Nat.reduceAdd, Nat.add_zero] at *); (try simp only [hw0, hw1, hw2, hw3, hw4]); omega)) | exact congrArg (fun z : Int => (some (vI z) : Option AV)) (b2_t (by unfold rfP rowP; (try simp only [Int.reduceToNat, Nat.reduceAdd, Nat.add_zero] at *); (try simp only [hw0, hw1, hw2, hw3, hw4]); omega)).symm | exact congrArg (fun z : Int => (some (vI z) : Option AV)) (b2_f (by unfold rfP rowP; (try simp only [Int.reduceToNat, Nat.reduceAdd, Nat.add_zero] at *); (try simp only [hw0, hw1, hw2, hw3, hw4]); omega)).symm
              · first | exact Or.inl ⟨(by unfold rfP rowP; (try simp only [Int.reduceToNat, Nat.reduceAdd, Nat.add_zero] at *); (try simp only [hw0, hw1, hw2, hw3, hw4]); omega), rfl⟩ | exact Or.inr ⟨(by unfold rfP rowP; (try simp only [Int.reduceToNat, Nat.reduceAdd, Nat.add_zero] at *); (try simp only [hw0, hw1, hw2, hw3, hw4]); omega), by subst hw0 hw1 hw2 hw3 hw4; exact s121⟩
      by_cases v35_3 : a = 3
      · subst v35_3
        refine AW.aaldL (t := 54) (pc' := 36) dX11_runFromRow_35 ly_50 (by decide) (by decide) (by decide) rfl ?_
        refine AW.astore4 (pc' := 38) dX11_runFromRow_36 (by decide) rfl ?_
        have f1 : (b + 1).toNat = b.toNat + 1 := by omega
        have f2 : (b + 2).toNat = b.toNat + 2 := by omega
        have f3 : (b + 3).toNat = b.toNat + 3 := by omega
        have f4 : (b + 4).toNat = b.toNat + 4 := by omega
        refine AW.lload_n (pc' := 39) dX11_runFromRow_38 rfl ?_
        refine AW.l2i (pc' := 40) dX11_runFromRow_39 ?_
        refine AW.istore5 (pc' := 42) dX11_runFromRow_40 (by decide) rfl ?_
        refine AW.aload (pc' := 44) dX11_runFromRow_42 rfl ?_
        refine AW.iload (pc' := 46) dX11_runFromRow_44 rfl ?_
        first | refine AW.laldN (pc' := 47) dX11_runFromRow_46 ly_54 (by first | assumption | omega | (constructor <;> omega) | (simp only [Int.toNat_natCast]; omega) | exact b2_in _) (by decide) (fun r46 => ?_) | refine AW.lald (pc' := 47) dX11_runFromRow_46 ly_54 (by first | assumption | omega | (constructor <;> omega) | (simp only [Int.toNat_natCast]; omega) | exact b2_in _) (by first | assumption | omega | (constructor <;> omega) | (simp only [Int.toNat_natCast]; omega) | exact b2_in _) (by decide) (fun r46 => ?_)
        try simp only [Int.reduceToNat, f1, f2, f3, f4] at r46 ⊢
        refine AW.l2i (pc' := 48) dX11_runFromRow_47 ?_
        refine AW.cong (b := wr (h (51 + 3) (b.toNat))) (wr_of _) ?_
        have i0 := wr_in (h (51 + 3) (b.toNat))
        generalize hw0 : wr (h (51 + 3) (b.toNat)) = w0 at i0 ⊢
        refine AW.istore6 (pc' := 50) dX11_runFromRow_48 (by decide) rfl ?_
        refine AW.aload (pc' := 52) dX11_runFromRow_50 rfl ?_
        refine AW.iload (pc' := 54) dX11_runFromRow_52 rfl ?_
        refine AW.iconst (pc' := 55) dX11_runFromRow_54 ?_
        refine AW.iadd (pc' := 56) dX11_runFromRow_55 ?_
        first | refine AW.laldN (pc' := 57) dX11_runFromRow_56 ly_54 (by first | assumption | omega | (constructor <;> omega) | (simp only [Int.toNat_natCast]; omega) | exact b2_in _) (by decide) (fun r56 => ?_) | refine AW.lald (pc' := 57) dX11_runFromRow_56 ly_54 (by first | assumption | omega | (constructor <;> omega) | (simp only [Int.toNat_natCast]; omega) | exact b2_in _) (by first | assumption | omega | (constructor <;> omega) | (simp only [Int.toNat_natCast]; omega) | exact b2_in _) (by decide) (fun r56 => ?_)
        try simp only [Int.reduceToNat, f1, f2, f3, f4] at r56 ⊢
        refine AW.l2i (pc' := 58) dX11_runFromRow_57 ?_
        refine AW.cong (b := wr (h (51 + 3) (b.toNat + 1))) (wr_of _) ?_
        have i1 := wr_in (h (51 + 3) (b.toNat + 1))
        generalize hw1 : wr (h (51 + 3) (b.toNat + 1)) = w1 at i1 ⊢
        refine AW.istore7 (pc' := 60) dX11_runFromRow_58 (by decide) rfl ?_
        refine AW.aload (pc' := 62) dX11_runFromRow_60 rfl ?_
        refine AW.iload (pc' := 64) dX11_runFromRow_62 rfl ?_
        refine AW.iconst (pc' := 65) dX11_runFromRow_64 ?_
        refine AW.iadd (pc' := 66) dX11_runFromRow_65 ?_
        first | refine AW.laldN (pc' := 67) dX11_runFromRow_66 ly_54 (by first | assumption | omega | (constructor <;> omega) | (simp only [Int.toNat_natCast]; omega) | exact b2_in _) (by decide) (fun r66 => ?_) | refine AW.lald (pc' := 67) dX11_runFromRow_66 ly_54 (by first | assumption | omega | (constructor <;> omega) | (simp only [Int.toNat_natCast]; omega) | exact b2_in _) (by first | assumption | omega | (constructor <;> omega) | (simp only [Int.toNat_natCast]; omega) | exact b2_in _) (by decide) (fun r66 => ?_)
        try simp only [Int.reduceToNat, f1, f2, f3, f4] at r66 ⊢
        refine AW.l2i (pc' := 68) dX11_runFromRow_67 ?_
        refine AW.cong (b := wr (h (51 + 3) (b.toNat + 2))) (wr_of _) ?_
        have i2 := wr_in (h (51 + 3) (b.toNat + 2))
        generalize hw2 : wr (h (51 + 3) (b.toNat + 2)) = w2 at i2 ⊢
        refine AW.istore8 (pc' := 70) dX11_runFromRow_68 (by decide) rfl ?_
        refine AW.aload (pc' := 72) dX11_runFromRow_70 rfl ?_
        refine AW.iload (pc' := 74) dX11_runFromRow_72 rfl ?_
        refine AW.iconst (pc' := 75) dX11_runFromRow_74 ?_
        refine AW.iadd (pc' := 76) dX11_runFromRow_75 ?_
        first | refine AW.laldN (pc' := 77) dX11_runFromRow_76 ly_54 (by first | assumption | omega | (constructor <;> omega) | (simp only [Int.toNat_natCast]; omega) | exact b2_in _) (by decide) (fun r76 => ?_) | refine AW.lald (pc' := 77) dX11_runFromRow_76 ly_54 (by first | assumption | omega | (constructor <;> omega) | (simp only [Int.toNat_natCast]; omega) | exact b2_in _) (by first | assumption | omega | (constructor <;> omega) | (simp only [Int.toNat_natCast]; omega) | exact b2_in _) (by decide) (fun r76 => ?_)
        try simp only [Int.reduceToNat, f1, f2, f3, f4] at r76 ⊢
        refine AW.l2i (pc' := 78) dX11_runFromRow_77 ?_
        refine AW.cong (b := wr (h (51 + 3) (b.toNat + 3))) (wr_of _) ?_
        have i3 := wr_in (h (51 + 3) (b.toNat + 3))
        generalize hw3 : wr (h (51 + 3) (b.toNat + 3)) = w3 at i3 ⊢
        refine AW.istore9 (pc' := 80) dX11_runFromRow_78 (by decide) rfl ?_
        refine AW.aload (pc' := 82) dX11_runFromRow_80 rfl ?_
        refine AW.iload (pc' := 84) dX11_runFromRow_82 rfl ?_
        refine AW.iconst (pc' := 85) dX11_runFromRow_84 ?_
        refine AW.iadd (pc' := 86) dX11_runFromRow_85 ?_
        first | refine AW.laldN (pc' := 87) dX11_runFromRow_86 ly_54 (by first | assumption | omega | (constructor <;> omega) | (simp only [Int.toNat_natCast]; omega) | exact b2_in _) (by decide) (fun r86 => ?_) | refine AW.lald (pc' := 87) dX11_runFromRow_86 ly_54 (by first | assumption | omega | (constructor <;> omega) | (simp only [Int.toNat_natCast]; omega) | exact b2_in _) (by first | assumption | omega | (constructor <;> omega) | (simp only [Int.toNat_natCast]; omega) | exact b2_in _) (by decide) (fun r86 => ?_)
        try simp only [Int.reduceToNat, f1, f2, f3, f4] at r86 ⊢
        refine AW.l2i (pc' := 88) dX11_runFromRow_87 ?_
        refine AW.cong (b := wr (h (51 + 3) (b.toNat + 4))) (wr_of _) ?_
        have i4 := wr_in (h (51 + 3) (b.toNat + 4))
        generalize hw4 : wr (h (51 + 3) (b.toNat + 4)) = w4 at i4 ⊢
        refine AW.istore10 (pc' := 90) dX11_runFromRow_88 (by decide) rfl ?_
        refine AW.aload_n (pc' := 91) dX11_runFromRow_90 rfl ?_
        refine AW.iload (pc' := 93) dX11_runFromRow_91 rfl ?_
        refine AW.iload (pc' := 95) dX11_runFromRow_93 rfl ?_
        refine AW.iload (pc' := 97) dX11_runFromRow_95 rfl ?_
        refine AW.iload (pc' := 99) dX11_runFromRow_97 rfl ?_
        refine AW.iload (pc' := 101) dX11_runFromRow_99 rfl ?_
        refine AW.invV5 (pc' := 104) dX11_runFromRow_101 mlX11_104 mX11_isRun ly_0 rfl (c_X11_isRun (dep := dep - 1) (by first | assumption | omega | (constructor <;> omega) | (simp only [Int.toNat_natCast]; omega) | exact b2_in _) (by first | assumption | omega | (constructor <;> omega) | (simp only [Int.toNat_natCast]; omega) | exact b2_in _) (by first | assumption | omega | (constructor <;> omega) | (simp only [Int.toNat_natCast]; omega) | exact b2_in _) (by first | assumption | omega | (constructor <;> omega) | (simp only [Int.toNat_natCast]; omega) | exact b2_in _) (by first | assumption | omega | (constructor <;> omega) | (simp only [Int.toNat_natCast]; omega) | exact b2_in _) (by first | assumption | omega | (constructor <;> omega) | (simp only [Int.toNat_natCast]; omega) | exact b2_in _)) ?_
        try simp only [Int.toNat_natCast, Int.reduceToNat, f1, f2, f3, f4]
        refine AW.ifb_eq (tgt := 133) (pc' := 107) dX11_runFromRow_104 (fun c104 => ?_) (fun c104 => ?_)
        · refine AW.iconst (pc' := 134) dX11_runFromRow_133 ?_
          refine AW.zret dX11_runFromRow_134 ?_ ?_ (by first | exact Or.inl rfl | exact Or.inr rfl | exact b2_01 _ | assumption | (subst_vars; omega))
          · first | exact congrArg (fun z : Int => (some (vI z) : Option AV)) (b2_t (by unfold rfP rowP; (try simp only [Int.reduceToNat, Nat.reduceAdd, Nat.add_zero] at *); (try simp only [hw0, hw1, hw2, hw3, hw4]); omega)) | exact congrArg (fun z : Int => (some (vI z) : Option AV)) (b2_f (by unfold rfP rowP; (try simp only [Int.reduceToNat, Nat.reduceAdd, Nat.add_zero] at *); (try simp only [hw0, hw1, hw2, hw3, hw4]); omega)) | exact congrArg (fun z : Int => (some (vI z) : Option AV)) (b2_t (by unfold rfP rowP; (try simp only [Int.reduceToNat, Nat.reduceAdd, Nat.add_zero] at *); (try simp only [hw0, hw1, hw2, hw3, hw4]); omega)).symm | exact congrArg (fun z : Int => (some (vI z) : Option AV)) (b2_f (by unfold rfP rowP; (try simp only [Int.reduceToNat, Nat.reduceAdd, Nat.add_zero] at *); (try simp only [hw0, hw1, hw2, hw3, hw4]); omega)).symm
          · first | exact Or.inl ⟨(by unfold rfP rowP; (try simp only [Int.reduceToNat, Nat.reduceAdd, Nat.add_zero] at *); (try simp only [hw0, hw1, hw2, hw3, hw4]); omega), rfl⟩ | exact Or.inr ⟨(by unfold rfP rowP; (try simp only [Int.reduceToNat, Nat.reduceAdd, Nat.add_zero] at *); (try simp only [hw0, hw1, hw2, hw3, hw4]); omega), by subst hw0 hw1 hw2 hw3 hw4; exact s121⟩
        · by_cases full : 120 ≤ h 12 10
          · skip
            refine AW.aload_n (pc' := 108) dX11_runFromRow_107 rfl ?_
            refine AW.getR (pc' := 111) dX11_runFromRow_108 ly_0 fX11_35 rfl ?_
            refine AW.iload (pc' := 113) dX11_runFromRow_111 rfl ?_
            refine AW.iload (pc' := 115) dX11_runFromRow_113 rfl ?_
            refine AW.iload (pc' := 117) dX11_runFromRow_115 rfl ?_
            refine AW.iload (pc' := 119) dX11_runFromRow_117 rfl ?_
            refine AW.iload (pc' := 121) dX11_runFromRow_119 rfl ?_
            refine AW.invV5 (pc' := 124) dX11_runFromRow_121 mlX11_108 mX7_come ly_12 rfl (c_X7_comeFull (dep := dep - 1) (by first | assumption | omega | (constructor <;> omega) | (simp only [Int.toNat_natCast]; omega) | exact b2_in _) (by first | assumption | omega | (constructor <;> omega) | (simp only [Int.toNat_natCast]; omega) | exact b2_in _) (by first | assumption | omega | (constructor <;> omega) | (simp only [Int.toNat_natCast]; omega) | exact b2_in _) (by first | assumption | omega | (constructor <;> omega) | (simp only [Int.toNat_natCast]; omega) | exact b2_in _) (by first | assumption | omega | (constructor <;> omega) | (simp only [Int.toNat_natCast]; omega) | exact b2_in _) (by first | assumption | omega | (constructor <;> omega) | (simp only [Int.toNat_natCast]; omega) | exact b2_in _)) ?_
            try simp only [Int.toNat_natCast, Int.reduceToNat, f1, f2, f3, f4]
            refine AW.bipush (pc' := 126) dX11_runFromRow_124 (by decide) ?_
            refine AW.icmp_eq (tgt := 133) (pc' := 129) dX11_runFromRow_126 (by first | assumption | omega | (constructor <;> omega) | (simp only [Int.toNat_natCast]; omega) | exact b2_in _) (by first | assumption | omega | (constructor <;> omega) | (simp only [Int.toNat_natCast]; omega) | exact b2_in _) (fun c126 => ?_) (fun c126 => ?_)
            · refine AW.iconst (pc' := 134) dX11_runFromRow_133 ?_
              refine AW.zret dX11_runFromRow_134 ?_ ?_ (by first | exact Or.inl rfl | exact Or.inr rfl | exact b2_01 _ | assumption | (subst_vars; omega))
              · first | exact congrArg (fun z : Int => (some (vI z) : Option AV)) (b2_t (by unfold rfP rowP; (try simp only [Int.reduceToNat, Nat.reduceAdd, Nat.add_zero] at *); (try simp only [hw0, hw1, hw2, hw3, hw4]); omega)) | exact congrArg (fun z : Int => (some (vI z) : Option AV)) (b2_f (by unfold rfP rowP; (try simp only [Int.reduceToNat, Nat.reduceAdd, Nat.add_zero] at *); (try simp only [hw0, hw1, hw2, hw3, hw4]); omega)) | exact congrArg (fun z : Int => (some (vI z) : Option AV)) (b2_t (by unfold rfP rowP; (try simp only [Int.reduceToNat, Nat.reduceAdd, Nat.add_zero] at *); (try simp only [hw0, hw1, hw2, hw3, hw4]); omega)).symm | exact congrArg (fun z : Int => (some (vI z) : Option AV)) (b2_f (by unfold rfP rowP; (try simp only [Int.reduceToNat, Nat.reduceAdd, Nat.add_zero] at *); (try simp only [hw0, hw1, hw2, hw3, hw4]); omega)).symm
              · first | exact Or.inl ⟨(by unfold rfP rowP; (try simp only [Int.reduceToNat, Nat.reduceAdd, Nat.add_zero] at *); (try simp only [hw0, hw1, hw2, hw3, hw4]); omega), rfl⟩ | exact Or.inr ⟨(by unfold rfP rowP; (try simp only [Int.reduceToNat, Nat.reduceAdd, Nat.add_zero] at *); (try simp only [hw0, hw1, hw2, hw3, hw4]); omega), by subst hw0 hw1 hw2 hw3 hw4; exact s121⟩
            · refine AW.iconst (pc' := 130) dX11_runFromRow_129 ?_
              refine AW.goto (tgt := 134) dX11_runFromRow_130 ?_
              refine AW.zret dX11_runFromRow_134 ?_ ?_ (by first | exact Or.inl rfl | exact Or.inr rfl | exact b2_01 _ | assumption | (subst_vars; omega))
              · first | exact congrArg (fun z : Int => (some (vI z) : Option AV)) (b2_t (by unfold rfP rowP; (try simp only [Int.reduceToNat, Nat.reduceAdd, Nat.add_zero] at *); (try simp only [hw0, hw1, hw2, hw3, hw4]); omega)) | exact congrArg (fun z : Int => (some (vI z) : Option AV)) (b2_f (by unfold rfP rowP; (try simp only [Int.reduceToNat, Nat.reduceAdd, Nat.add_zero] at *); (try simp only [hw0, hw1, hw2, hw3, hw4]); omega)) | exact congrArg (fun z : Int => (some (vI z) : Option AV)) (b2_t (by unfold rfP rowP; (try simp only [Int.reduceToNat, Nat.reduceAdd, Nat.add_zero] at *); (try simp only [hw0, hw1, hw2, hw3, hw4]); omega)).symm | exact congrArg (fun z : Int => (some (vI z) : Option AV)) (b2_f (by unfold rfP rowP; (try simp only [Int.reduceToNat, Nat.reduceAdd, Nat.add_zero] at *); (try simp only [hw0, hw1, hw2, hw3, hw4]); omega)).symm
              · first | exact Or.inl ⟨(by unfold rfP rowP; (try simp only [Int.reduceToNat, Nat.reduceAdd, Nat.add_zero] at *); (try simp only [hw0, hw1, hw2, hw3, hw4]); omega), rfl⟩ | exact Or.inr ⟨(by unfold rfP rowP; (try simp only [Int.reduceToNat, Nat.reduceAdd, Nat.add_zero] at *); (try simp only [hw0, hw1, hw2, hw3, hw4]); omega), by subst hw0 hw1 hw2 hw3 hw4; exact s121⟩
          · skip
            refine AW.aload_n (pc' := 108) dX11_runFromRow_107 rfl ?_
            refine AW.getR (pc' := 111) dX11_runFromRow_108 ly_0 fX11_35 rfl ?_
            refine AW.iload (pc' := 113) dX11_runFromRow_111 rfl ?_
            refine AW.iload (pc' := 115) dX11_runFromRow_113 rfl ?_
            refine AW.iload (pc' := 117) dX11_runFromRow_115 rfl ?_
            refine AW.iload (pc' := 119) dX11_runFromRow_117 rfl ?_
            refine AW.iload (pc' := 121) dX11_runFromRow_119 rfl ?_
            refine AW.invQ5 (pc' := 124) dX11_runFromRow_121 mlX11_108 mX7_come ly_12 rfl (c_X7_come (dep := dep - 1) (by omega) (by omega) hQ1 hQ2 (by first | assumption | omega | (constructor <;> omega) | (simp only [Int.toNat_natCast]; omega) | exact b2_in _) (by first | assumption | omega | (constructor <;> omega) | (simp only [Int.toNat_natCast]; omega) | exact b2_in _) (by first | assumption | omega | (constructor <;> omega) | (simp only [Int.toNat_natCast]; omega) | exact b2_in _) (by first | assumption | omega | (constructor <;> omega) | (simp only [Int.toNat_natCast]; omega) | exact b2_in _) (by first | assumption | omega | (constructor <;> omega) | (simp only [Int.toNat_natCast]; omega) | exact b2_in _)) (fun h121 s121 => ?_)
            try simp only [Int.toNat_natCast, Int.reduceToNat, f1, f2, f3, f4]
            refine AW.bipush (pc' := 126) dX11_runFromRow_124 (by decide) ?_
            refine AW.icmp_eq (tgt := 133) (pc' := 129) dX11_runFromRow_126 (by first | assumption | omega | (constructor <;> omega) | (simp only [Int.toNat_natCast]; omega) | exact b2_in _) (by first | assumption | omega | (constructor <;> omega) | (simp only [Int.toNat_natCast]; omega) | exact b2_in _) (fun c126 => ?_) (fun c126 => ?_)
            · refine AW.iconst (pc' := 134) dX11_runFromRow_133 ?_
              refine AW.zret dX11_runFromRow_134 ?_ ?_ (by first | exact Or.inl rfl | exact Or.inr rfl | exact b2_01 _ | assumption | (subst_vars; omega))
              · first | exact congrArg (fun z : Int => (some (vI z) : Option AV)) (b2_t (by unfold rfP rowP; (try simp only [Int.reduceToNat, Nat.reduceAdd, Nat.add_zero] at *); (try simp only [hw0, hw1, hw2, hw3, hw4]); omega)) | exact congrArg (fun z : Int => (some (vI z) : Option AV)) (b2_f (by unfold rfP rowP; (try simp only [Int.reduceToNat, Nat.reduceAdd, Nat.add_zero] at *); (try simp only [hw0, hw1, hw2, hw3, hw4]); omega)) | exact congrArg (fun z : Int => (some (vI z) : Option AV)) (b2_t (by unfold rfP rowP; (try simp only [Int.reduceToNat, Nat.reduceAdd, Nat.add_zero] at *); (try simp only [hw0, hw1, hw2, hw3, hw4]); omega)).symm | exact congrArg (fun z : Int => (some (vI z) : Option AV)) (b2_f (by unfold rfP rowP; (try simp only [Int.reduceToNat, Nat.reduceAdd, Nat.add_zero] at *); (try simp only [hw0, hw1, hw2, hw3, hw4]); omega)).symm
              · first | exact Or.inl ⟨(by unfold rfP rowP; (try simp only [Int.reduceToNat, Nat.reduceAdd, Nat.add_zero] at *); (try simp only [hw0, hw1, hw2, hw3, hw4]); omega), rfl⟩ | exact Or.inr ⟨(by unfold rfP rowP; (try simp only [Int.reduceToNat, Nat.reduceAdd, Nat.add_zero] at *); (try simp only [hw0, hw1, hw2, hw3, hw4]); omega), by subst hw0 hw1 hw2 hw3 hw4; exact s121⟩
            · refine AW.iconst (pc' := 130) dX11_runFromRow_129 ?_
              refine AW.goto (tgt := 134) dX11_runFromRow_130 ?_
              refine AW.zret dX11_runFromRow_134 ?_ ?_ (by first | exact Or.inl rfl | exact Or.inr rfl | exact b2_01 _ | assumption | (subst_vars; omega))
              · first | exact congrArg (fun z : Int => (some (vI z) : Option AV)) (b2_t (by unfold rfP rowP; (try simp only [Int.reduceToNat, Nat.reduceAdd, Nat.add_zero] at *); (try simp only [hw0, hw1, hw2, hw3, hw4]); omega)) | exact congrArg (fun z : Int => (some (vI z) : Option AV)) (b2_f (by unfold rfP rowP; (try simp only [Int.reduceToNat, Nat.reduceAdd, Nat.add_zero] at *); (try simp only [hw0, hw1, hw2, hw3, hw4]); omega)) | exact congrArg (fun z : Int => (some (vI z) : Option AV)) (b2_t (by unfold rfP rowP; (try simp only [Int.reduceToNat, Nat.reduceAdd, Nat.add_zero] at *); (try simp only [hw0, hw1, hw2, hw3, hw4]); omega)).symm | exact congrArg (fun z : Int => (some (vI z) : Option AV)) (b2_f (by unfold rfP rowP; (try simp only [Int.reduceToNat, Nat.reduceAdd, Nat.add_zero] at *); (try simp only [hw0, hw1, hw2, hw3, hw4]); omega)).symm
              · first | exact Or.inl ⟨(by unfold rfP rowP; (try simp only [Int.reduceToNat, Nat.reduceAdd, Nat.add_zero] at *); (try simp only [hw0, hw1, hw2, hw3, hw4]); omega), rfl⟩ | exact Or.inr ⟨(by unfold rfP rowP; (try simp only [Int.reduceToNat, Nat.reduceAdd, Nat.add_zero] at *); (try simp only [hw0, hw1, hw2, hw3, hw4]); omega), by subst hw0 hw1 hw2 hw3 hw4; exact s121⟩
      by_cases v35_4 : a = 4
      · subst v35_4
        refine AW.aaldL (t := 55) (pc' := 36) dX11_runFromRow_35 ly_50 (by decide) (by decide) (by decide) rfl ?_
        refine AW.astore4 (pc' := 38) dX11_runFromRow_36 (by decide) rfl ?_
        have f1 : (b + 1).toNat = b.toNat + 1 := by omega
        have f2 : (b + 2).toNat = b.toNat + 2 := by omega
        have f3 : (b + 3).toNat = b.toNat + 3 := by omega
        have f4 : (b + 4).toNat = b.toNat + 4 := by omega
        refine AW.lload_n (pc' := 39) dX11_runFromRow_38 rfl ?_
        refine AW.l2i (pc' := 40) dX11_runFromRow_39 ?_
        refine AW.istore5 (pc' := 42) dX11_runFromRow_40 (by decide) rfl ?_
        refine AW.aload (pc' := 44) dX11_runFromRow_42 rfl ?_
        refine AW.iload (pc' := 46) dX11_runFromRow_44 rfl ?_
        first | refine AW.laldN (pc' := 47) dX11_runFromRow_46 ly_55 (by first | assumption | omega | (constructor <;> omega) | (simp only [Int.toNat_natCast]; omega) | exact b2_in _) (by decide) (fun r46 => ?_) | refine AW.lald (pc' := 47) dX11_runFromRow_46 ly_55 (by first | assumption | omega | (constructor <;> omega) | (simp only [Int.toNat_natCast]; omega) | exact b2_in _) (by first | assumption | omega | (constructor <;> omega) | (simp only [Int.toNat_natCast]; omega) | exact b2_in _) (by decide) (fun r46 => ?_)
        try simp only [Int.reduceToNat, f1, f2, f3, f4] at r46 ⊢
        refine AW.l2i (pc' := 48) dX11_runFromRow_47 ?_
        refine AW.cong (b := wr (h (51 + 4) (b.toNat))) (wr_of _) ?_
        have i0 := wr_in (h (51 + 4) (b.toNat))
        generalize hw0 : wr (h (51 + 4) (b.toNat)) = w0 at i0 ⊢
        refine AW.istore6 (pc' := 50) dX11_runFromRow_48 (by decide) rfl ?_
        refine AW.aload (pc' := 52) dX11_runFromRow_50 rfl ?_
        refine AW.iload (pc' := 54) dX11_runFromRow_52 rfl ?_
        refine AW.iconst (pc' := 55) dX11_runFromRow_54 ?_
        refine AW.iadd (pc' := 56) dX11_runFromRow_55 ?_
        first | refine AW.laldN (pc' := 57) dX11_runFromRow_56 ly_55 (by first | assumption | omega | (constructor <;> omega) | (simp only [Int.toNat_natCast]; omega) | exact b2_in _) (by decide) (fun r56 => ?_) | refine AW.lald (pc' := 57) dX11_runFromRow_56 ly_55 (by first | assumption | omega | (constructor <;> omega) | (simp only [Int.toNat_natCast]; omega) | exact b2_in _) (by first | assumption | omega | (constructor <;> omega) | (simp only [Int.toNat_natCast]; omega) | exact b2_in _) (by decide) (fun r56 => ?_)
        try simp only [Int.reduceToNat, f1, f2, f3, f4] at r56 ⊢
        refine AW.l2i (pc' := 58) dX11_runFromRow_57 ?_
        refine AW.cong (b := wr (h (51 + 4) (b.toNat + 1))) (wr_of _) ?_
        have i1 := wr_in (h (51 + 4) (b.toNat + 1))
        generalize hw1 : wr (h (51 + 4) (b.toNat + 1)) = w1 at i1 ⊢
        refine AW.istore7 (pc' := 60) dX11_runFromRow_58 (by decide) rfl ?_
        refine AW.aload (pc' := 62) dX11_runFromRow_60 rfl ?_
        refine AW.iload (pc' := 64) dX11_runFromRow_62 rfl ?_
        refine AW.iconst (pc' := 65) dX11_runFromRow_64 ?_
        refine AW.iadd (pc' := 66) dX11_runFromRow_65 ?_
        first | refine AW.laldN (pc' := 67) dX11_runFromRow_66 ly_55 (by first | assumption | omega | (constructor <;> omega) | (simp only [Int.toNat_natCast]; omega) | exact b2_in _) (by decide) (fun r66 => ?_) | refine AW.lald (pc' := 67) dX11_runFromRow_66 ly_55 (by first | assumption | omega | (constructor <;> omega) | (simp only [Int.toNat_natCast]; omega) | exact b2_in _) (by first | assumption | omega | (constructor <;> omega) | (simp only [Int.toNat_natCast]; omega) | exact b2_in _) (by decide) (fun r66 => ?_)
        try simp only [Int.reduceToNat, f1, f2, f3, f4] at r66 ⊢
        refine AW.l2i (pc' := 68) dX11_runFromRow_67 ?_
        refine AW.cong (b := wr (h (51 + 4) (b.toNat + 2))) (wr_of _) ?_
        have i2 := wr_in (h (51 + 4) (b.toNat + 2))
        generalize hw2 : wr (h (51 + 4) (b.toNat + 2)) = w2 at i2 ⊢
        refine AW.istore8 (pc' := 70) dX11_runFromRow_68 (by decide) rfl ?_
        refine AW.aload (pc' := 72) dX11_runFromRow_70 rfl ?_
        refine AW.iload (pc' := 74) dX11_runFromRow_72 rfl ?_
        refine AW.iconst (pc' := 75) dX11_runFromRow_74 ?_
        refine AW.iadd (pc' := 76) dX11_runFromRow_75 ?_
        first | refine AW.laldN (pc' := 77) dX11_runFromRow_76 ly_55 (by first | assumption | omega | (constructor <;> omega) | (simp only [Int.toNat_natCast]; omega) | exact b2_in _) (by decide) (fun r76 => ?_) | refine AW.lald (pc' := 77) dX11_runFromRow_76 ly_55 (by first | assumption | omega | (constructor <;> omega) | (simp only [Int.toNat_natCast]; omega) | exact b2_in _) (by first | assumption | omega | (constructor <;> omega) | (simp only [Int.toNat_natCast]; omega) | exact b2_in _) (by decide) (fun r76 => ?_)
        try simp only [Int.reduceToNat, f1, f2, f3, f4] at r76 ⊢
        refine AW.l2i (pc' := 78) dX11_runFromRow_77 ?_
        refine AW.cong (b := wr (h (51 + 4) (b.toNat + 3))) (wr_of _) ?_
        have i3 := wr_in (h (51 + 4) (b.toNat + 3))
        generalize hw3 : wr (h (51 + 4) (b.toNat + 3)) = w3 at i3 ⊢
        refine AW.istore9 (pc' := 80) dX11_runFromRow_78 (by decide) rfl ?_
        refine AW.aload (pc' := 82) dX11_runFromRow_80 rfl ?_
        refine AW.iload (pc' := 84) dX11_runFromRow_82 rfl ?_
        refine AW.iconst (pc' := 85) dX11_runFromRow_84 ?_
        refine AW.iadd (pc' := 86) dX11_runFromRow_85 ?_
        first | refine AW.laldN (pc' := 87) dX11_runFromRow_86 ly_55 (by first | assumption | omega | (constructor <;> omega) | (simp only [Int.toNat_natCast]; omega) | exact b2_in _) (by decide) (fun r86 => ?_) | refine AW.lald (pc' := 87) dX11_runFromRow_86 ly_55 (by first | assumption | omega | (constructor <;> omega) | (simp only [Int.toNat_natCast]; omega) | exact b2_in _) (by first | assumption | omega | (constructor <;> omega) | (simp only [Int.toNat_natCast]; omega) | exact b2_in _) (by decide) (fun r86 => ?_)
        try simp only [Int.reduceToNat, f1, f2, f3, f4] at r86 ⊢
        refine AW.l2i (pc' := 88) dX11_runFromRow_87 ?_
        refine AW.cong (b := wr (h (51 + 4) (b.toNat + 4))) (wr_of _) ?_
        have i4 := wr_in (h (51 + 4) (b.toNat + 4))
        generalize hw4 : wr (h (51 + 4) (b.toNat + 4)) = w4 at i4 ⊢
        refine AW.istore10 (pc' := 90) dX11_runFromRow_88 (by decide) rfl ?_
        refine AW.aload_n (pc' := 91) dX11_runFromRow_90 rfl ?_
        refine AW.iload (pc' := 93) dX11_runFromRow_91 rfl ?_
        refine AW.iload (pc' := 95) dX11_runFromRow_93 rfl ?_
        refine AW.iload (pc' := 97) dX11_runFromRow_95 rfl ?_
        refine AW.iload (pc' := 99) dX11_runFromRow_97 rfl ?_
        refine AW.iload (pc' := 101) dX11_runFromRow_99 rfl ?_
        refine AW.invV5 (pc' := 104) dX11_runFromRow_101 mlX11_104 mX11_isRun ly_0 rfl (c_X11_isRun (dep := dep - 1) (by first | assumption | omega | (constructor <;> omega) | (simp only [Int.toNat_natCast]; omega) | exact b2_in _) (by first | assumption | omega | (constructor <;> omega) | (simp only [Int.toNat_natCast]; omega) | exact b2_in _) (by first | assumption | omega | (constructor <;> omega) | (simp only [Int.toNat_natCast]; omega) | exact b2_in _) (by first | assumption | omega | (constructor <;> omega) | (simp only [Int.toNat_natCast]; omega) | exact b2_in _) (by first | assumption | omega | (constructor <;> omega) | (simp only [Int.toNat_natCast]; omega) | exact b2_in _) (by first | assumption | omega | (constructor <;> omega) | (simp only [Int.toNat_natCast]; omega) | exact b2_in _)) ?_
        try simp only [Int.toNat_natCast, Int.reduceToNat, f1, f2, f3, f4]
        refine AW.ifb_eq (tgt := 133) (pc' := 107) dX11_runFromRow_104 (fun c104 => ?_) (fun c104 => ?_)
        · refine AW.iconst (pc' := 134) dX11_runFromRow_133 ?_
          refine AW.zret dX11_runFromRow_134 ?_ ?_ (by first | exact Or.inl rfl | exact Or.inr rfl | exact b2_01 _ | assumption | (subst_vars; omega))
          · first | exact congrArg (fun z : Int => (some (vI z) : Option AV)) (b2_t (by unfold rfP rowP; (try simp only [Int.reduceToNat, Nat.reduceAdd, Nat.add_zero] at *); (try simp only [hw0, hw1, hw2, hw3, hw4]); omega)) | exact congrArg (fun z : Int => (some (vI z) : Option AV)) (b2_f (by unfold rfP rowP; (try simp only [Int.reduceToNat, Nat.reduceAdd, Nat.add_zero] at *); (try simp only [hw0, hw1, hw2, hw3, hw4]); omega)) | exact congrArg (fun z : Int => (some (vI z) : Option AV)) (b2_t (by unfold rfP rowP; (try simp only [Int.reduceToNat, Nat.reduceAdd, Nat.add_zero] at *); (try simp only [hw0, hw1, hw2, hw3, hw4]); omega)).symm | exact congrArg (fun z : Int => (some (vI z) : Option AV)) (b2_f (by unfold rfP rowP; (try simp only [Int.reduceToNat, Nat.reduceAdd, Nat.add_zero] at *); (try simp only [hw0, hw1, hw2, hw3, hw4]); omega)).symm
          · first | exact Or.inl ⟨(by unfold rfP rowP; (try simp only [Int.reduceToNat, Nat.reduceAdd, Nat.add_zero] at *); (try simp only [hw0, hw1, hw2, hw3, hw4]); omega), rfl⟩ | exact Or.inr ⟨(by unfold rfP rowP; (try simp only [Int.reduceToNat, Nat.reduceAdd, Nat.add_zero] at *); (try simp only [hw0, hw1, hw2, hw3, hw4]); omega), by subst hw0 hw1 hw2 hw3 hw4; exact s121⟩
        · by_cases full : 120 ≤ h 12 10
          · skip
            refine AW.aload_n (pc' := 108) dX11_runFromRow_107 rfl ?_
            refine AW.getR (pc' := 111) dX11_runFromRow_108 ly_0 fX11_35 rfl ?_
            refine AW.iload (pc' := 113) dX11_runFromRow_111 rfl ?_
            refine AW.iload (pc' := 115) dX11_runFromRow_113 rfl ?_
            refine AW.iload (pc' := 117) dX11_runFromRow_115 rfl ?_
            refine AW.iload (pc' := 119) dX11_runFromRow_117 rfl ?_
            refine AW.iload (pc' := 121) dX11_runFromRow_119 rfl ?_
            refine AW.invV5 (pc' := 124) dX11_runFromRow_121 mlX11_108 mX7_come ly_12 rfl (c_X7_comeFull (dep := dep - 1) (by first | assumption | omega | (constructor <;> omega) | (simp only [Int.toNat_natCast]; omega) | exact b2_in _) (by first | assumption | omega | (constructor <;> omega) | (simp only [Int.toNat_natCast]; omega) | exact b2_in _) (by first | assumption | omega | (constructor <;> omega) | (simp only [Int.toNat_natCast]; omega) | exact b2_in _) (by first | assumption | omega | (constructor <;> omega) | (simp only [Int.toNat_natCast]; omega) | exact b2_in _) (by first | assumption | omega | (constructor <;> omega) | (simp only [Int.toNat_natCast]; omega) | exact b2_in _) (by first | assumption | omega | (constructor <;> omega) | (simp only [Int.toNat_natCast]; omega) | exact b2_in _)) ?_
            try simp only [Int.toNat_natCast, Int.reduceToNat, f1, f2, f3, f4]
            refine AW.bipush (pc' := 126) dX11_runFromRow_124 (by decide) ?_
            refine AW.icmp_eq (tgt := 133) (pc' := 129) dX11_runFromRow_126 (by first | assumption | omega | (constructor <;> omega) | (simp only [Int.toNat_natCast]; omega) | exact b2_in _) (by first | assumption | omega | (constructor <;> omega) | (simp only [Int.toNat_natCast]; omega) | exact b2_in _) (fun c126 => ?_) (fun c126 => ?_)
            · refine AW.iconst (pc' := 134) dX11_runFromRow_133 ?_
              refine AW.zret dX11_runFromRow_134 ?_ ?_ (by first | exact Or.inl rfl | exact Or.inr rfl | exact b2_01 _ | assumption | (subst_vars; omega))
              · first | exact congrArg (fun z : Int => (some (vI z) : Option AV)) (b2_t (by unfold rfP rowP; (try simp only [Int.reduceToNat, Nat.reduceAdd, Nat.add_zero] at *); (try simp only [hw0, hw1, hw2, hw3, hw4]); omega)) | exact congrArg (fun z : Int => (some (vI z) : Option AV)) (b2_f (by unfold rfP rowP; (try simp only [Int.reduceToNat, Nat.reduceAdd, Nat.add_zero] at *); (try simp only [hw0, hw1, hw2, hw3, hw4]); omega)) | exact congrArg (fun z : Int => (some (vI z) : Option AV)) (b2_t (by unfold rfP rowP; (try simp only [Int.reduceToNat, Nat.reduceAdd, Nat.add_zero] at *); (try simp only [hw0, hw1, hw2, hw3, hw4]); omega)).symm | exact congrArg (fun z : Int => (some (vI z) : Option AV)) (b2_f (by unfold rfP rowP; (try simp only [Int.reduceToNat, Nat.reduceAdd, Nat.add_zero] at *); (try simp only [hw0, hw1, hw2, hw3, hw4]); omega)).symm
              · first | exact Or.inl ⟨(by unfold rfP rowP; (try simp only [Int.reduceToNat, Nat.reduceAdd, Nat.add_zero] at *); (try simp only [hw0, hw1, hw2, hw3, hw4]); omega), rfl⟩ | exact Or.inr ⟨(by unfold rfP rowP; (try simp only [Int.reduceToNat, Nat.reduceAdd, Nat.add_zero] at *); (try simp only [hw0, hw1, hw2, hw3, hw4]); omega), by subst hw0 hw1 hw2 hw3 hw4; exact s121⟩
            · refine AW.iconst (pc' := 130) dX11_runFromRow_129 ?_
              refine AW.goto (tgt := 134) dX11_runFromRow_130 ?_
              refine AW.zret dX11_runFromRow_134 ?_ ?_ (by first | exact Or.inl rfl | exact Or.inr rfl | exact b2_01 _ | assumption | (subst_vars; omega))
              · first | exact congrArg (fun z : Int => (some (vI z) : Option AV)) (b2_t (by unfold rfP rowP; (try simp only [Int.reduceToNat, Nat.reduceAdd, Nat.add_zero] at *); (try simp only [hw0, hw1, hw2, hw3, hw4]); omega)) | exact congrArg (fun z : Int => (some (vI z) : Option AV)) (b2_f (by unfold rfP rowP; (try simp only [Int.reduceToNat, Nat.reduceAdd, Nat.add_zero] at *); (try simp only [hw0, hw1, hw2, hw3, hw4]); omega)) | exact congrArg (fun z : Int => (some (vI z) : Option AV)) (b2_t (by unfold rfP rowP; (try simp only [Int.reduceToNat, Nat.reduceAdd, Nat.add_zero] at *); (try simp only [hw0, hw1, hw2, hw3, hw4]); omega)).symm | exact congrArg (fun z : Int => (some (vI z) : Option AV)) (b2_f (by unfold rfP rowP; (try simp only [Int.reduceToNat, Nat.reduceAdd, Nat.add_zero] at *); (try simp only [hw0, hw1, hw2, hw3, hw4]); omega)).symm
              · first | exact Or.inl ⟨(by unfold rfP rowP; (try simp only [Int.reduceToNat, Nat.reduceAdd, Nat.add_zero] at *); (try simp only [hw0, hw1, hw2, hw3, hw4]); omega), rfl⟩ | exact Or.inr ⟨(by unfold rfP rowP; (try simp only [Int.reduceToNat, Nat.reduceAdd, Nat.add_zero] at *); (try simp only [hw0, hw1, hw2, hw3, hw4]); omega), by subst hw0 hw1 hw2 hw3 hw4; exact s121⟩
          · skip
            refine AW.aload_n (pc' := 108) dX11_runFromRow_107 rfl ?_
            refine AW.getR (pc' := 111) dX11_runFromRow_108 ly_0 fX11_35 rfl ?_
            refine AW.iload (pc' := 113) dX11_runFromRow_111 rfl ?_
            refine AW.iload (pc' := 115) dX11_runFromRow_113 rfl ?_
            refine AW.iload (pc' := 117) dX11_runFromRow_115 rfl ?_
            refine AW.iload (pc' := 119) dX11_runFromRow_117 rfl ?_
            refine AW.iload (pc' := 121) dX11_runFromRow_119 rfl ?_
            refine AW.invQ5 (pc' := 124) dX11_runFromRow_121 mlX11_108 mX7_come ly_12 rfl (c_X7_come (dep := dep - 1) (by omega) (by omega) hQ1 hQ2 (by first | assumption | omega | (constructor <;> omega) | (simp only [Int.toNat_natCast]; omega) | exact b2_in _) (by first | assumption | omega | (constructor <;> omega) | (simp only [Int.toNat_natCast]; omega) | exact b2_in _) (by first | assumption | omega | (constructor <;> omega) | (simp only [Int.toNat_natCast]; omega) | exact b2_in _) (by first | assumption | omega | (constructor <;> omega) | (simp only [Int.toNat_natCast]; omega) | exact b2_in _) (by first | assumption | omega | (constructor <;> omega) | (simp only [Int.toNat_natCast]; omega) | exact b2_in _)) (fun h121 s121 => ?_)
            try simp only [Int.toNat_natCast, Int.reduceToNat, f1, f2, f3, f4]
            refine AW.bipush (pc' := 126) dX11_runFromRow_124 (by decide) ?_
            refine AW.icmp_eq (tgt := 133) (pc' := 129) dX11_runFromRow_126 (by first | assumption | omega | (constructor <;> omega) | (simp only [Int.toNat_natCast]; omega) | exact b2_in _) (by first | assumption | omega | (constructor <;> omega) | (simp only [Int.toNat_natCast]; omega) | exact b2_in _) (fun c126 => ?_) (fun c126 => ?_)
            · refine AW.iconst (pc' := 134) dX11_runFromRow_133 ?_
              refine AW.zret dX11_runFromRow_134 ?_ ?_ (by first | exact Or.inl rfl | exact Or.inr rfl | exact b2_01 _ | assumption | (subst_vars; omega))
              · first | exact congrArg (fun z : Int => (some (vI z) : Option AV)) (b2_t (by unfold rfP rowP; (try simp only [Int.reduceToNat, Nat.reduceAdd, Nat.add_zero] at *); (try simp only [hw0, hw1, hw2, hw3, hw4]); omega)) | exact congrArg (fun z : Int => (some (vI z) : Option AV)) (b2_f (by unfold rfP rowP; (try simp only [Int.reduceToNat, Nat.reduceAdd, Nat.add_zero] at *); (try simp only [hw0, hw1, hw2, hw3, hw4]); omega)) | exact congrArg (fun z : Int => (some (vI z) : Option AV)) (b2_t (by unfold rfP rowP; (try simp only [Int.reduceToNat, Nat.reduceAdd, Nat.add_zero] at *); (try simp only [hw0, hw1, hw2, hw3, hw4]); omega)).symm | exact congrArg (fun z : Int => (some (vI z) : Option AV)) (b2_f (by unfold rfP rowP; (try simp only [Int.reduceToNat, Nat.reduceAdd, Nat.add_zero] at *); (try simp only [hw0, hw1, hw2, hw3, hw4]); omega)).symm
              · first | exact Or.inl ⟨(by unfold rfP rowP; (try simp only [Int.reduceToNat, Nat.reduceAdd, Nat.add_zero] at *); (try simp only [hw0, hw1, hw2, hw3, hw4]); omega), rfl⟩ | exact Or.inr ⟨(by unfold rfP rowP; (try simp only [Int.reduceToNat, Nat.reduceAdd, Nat.add_zero] at *); (try simp only [hw0, hw1, hw2, hw3, hw4]); omega), by subst hw0 hw1 hw2 hw3 hw4; exact s121⟩
            · refine AW.iconst (pc' := 130) dX11_runFromRow_129 ?_
              refine AW.goto (tgt := 134) dX11_runFromRow_130 ?_
              refine AW.zret dX11_runFromRow_134 ?_ ?_ (by first | exact Or.inl rfl | exact Or.inr rfl | exact b2_01 _ | assumption | (subst_vars; omega))
              · first | exact congrArg (fun z : Int => (some (vI z) : Option AV)) (b2_t (by unfold rfP rowP; (try simp only [Int.reduceToNat, Nat.reduceAdd, Nat.add_zero] at *); (try simp only [hw0, hw1, hw2, hw3, hw4]); omega)) | exact congrArg (fun z : Int => (some (vI z) : Option AV)) (b2_f (by unfold rfP rowP; (try simp only [Int.reduceToNat, Nat.reduceAdd, Nat.add_zero] at *); (try simp only [hw0, hw1, hw2, hw3, hw4]); omega)) | exact congrArg (fun z : Int => (some (vI z) : Option AV)) (b2_t (by unfold rfP rowP; (try simp only [Int.reduceToNat, Nat.reduceAdd, Nat.add_zero] at *); (try simp only [hw0, hw1, hw2, hw3, hw4]); omega)).symm | exact congrArg (fun z : Int => (some (vI z) : Option AV)) (b2_f (by unfold rfP rowP; (try simp only [Int.reduceToNat, Nat.reduceAdd, Nat.add_zero] at *); (try simp only [hw0, hw1, hw2, hw3, hw4]); omega)).symm
              · first | exact Or.inl ⟨(by unfold rfP rowP; (try simp only [Int.reduceToNat, Nat.reduceAdd, Nat.add_zero] at *); (try simp only [hw0, hw1, hw2, hw3, hw4]); omega), rfl⟩ | exact Or.inr ⟨(by unfold rfP rowP; (try simp only [Int.reduceToNat, Nat.reduceAdd, Nat.add_zero] at *); (try simp only [hw0, hw1, hw2, hw3, hw4]); omega), by subst hw0 hw1 hw2 hw3 hw4; exact s121⟩
      by_cases v35_5 : a = 5
      · subst v35_5
        refine AW.aaldL (t := 56) (pc' := 36) dX11_runFromRow_35 ly_50 (by decide) (by decide) (by decide) rfl ?_
        refine AW.astore4 (pc' := 38) dX11_runFromRow_36 (by decide) rfl ?_
        have f1 : (b + 1).toNat = b.toNat + 1 := by omega
        have f2 : (b + 2).toNat = b.toNat + 2 := by omega
        have f3 : (b + 3).toNat = b.toNat + 3 := by omega
        have f4 : (b + 4).toNat = b.toNat + 4 := by omega
        refine AW.lload_n (pc' := 39) dX11_runFromRow_38 rfl ?_
        refine AW.l2i (pc' := 40) dX11_runFromRow_39 ?_
        refine AW.istore5 (pc' := 42) dX11_runFromRow_40 (by decide) rfl ?_
        refine AW.aload (pc' := 44) dX11_runFromRow_42 rfl ?_
        refine AW.iload (pc' := 46) dX11_runFromRow_44 rfl ?_
        first | refine AW.laldN (pc' := 47) dX11_runFromRow_46 ly_56 (by first | assumption | omega | (constructor <;> omega) | (simp only [Int.toNat_natCast]; omega) | exact b2_in _) (by decide) (fun r46 => ?_) | refine AW.lald (pc' := 47) dX11_runFromRow_46 ly_56 (by first | assumption | omega | (constructor <;> omega) | (simp only [Int.toNat_natCast]; omega) | exact b2_in _) (by first | assumption | omega | (constructor <;> omega) | (simp only [Int.toNat_natCast]; omega) | exact b2_in _) (by decide) (fun r46 => ?_)
        try simp only [Int.reduceToNat, f1, f2, f3, f4] at r46 ⊢
        refine AW.l2i (pc' := 48) dX11_runFromRow_47 ?_
        refine AW.cong (b := wr (h (51 + 5) (b.toNat))) (wr_of _) ?_
        have i0 := wr_in (h (51 + 5) (b.toNat))
        generalize hw0 : wr (h (51 + 5) (b.toNat)) = w0 at i0 ⊢
        refine AW.istore6 (pc' := 50) dX11_runFromRow_48 (by decide) rfl ?_
        refine AW.aload (pc' := 52) dX11_runFromRow_50 rfl ?_
        refine AW.iload (pc' := 54) dX11_runFromRow_52 rfl ?_
        refine AW.iconst (pc' := 55) dX11_runFromRow_54 ?_
        refine AW.iadd (pc' := 56) dX11_runFromRow_55 ?_
        first | refine AW.laldN (pc' := 57) dX11_runFromRow_56 ly_56 (by first | assumption | omega | (constructor <;> omega) | (simp only [Int.toNat_natCast]; omega) | exact b2_in _) (by decide) (fun r56 => ?_) | refine AW.lald (pc' := 57) dX11_runFromRow_56 ly_56 (by first | assumption | omega | (constructor <;> omega) | (simp only [Int.toNat_natCast]; omega) | exact b2_in _) (by first | assumption | omega | (constructor <;> omega) | (simp only [Int.toNat_natCast]; omega) | exact b2_in _) (by decide) (fun r56 => ?_)
        try simp only [Int.reduceToNat, f1, f2, f3, f4] at r56 ⊢
        refine AW.l2i (pc' := 58) dX11_runFromRow_57 ?_
        refine AW.cong (b := wr (h (51 + 5) (b.toNat + 1))) (wr_of _) ?_
        have i1 := wr_in (h (51 + 5) (b.toNat + 1))
        generalize hw1 : wr (h (51 + 5) (b.toNat + 1)) = w1 at i1 ⊢
        refine AW.istore7 (pc' := 60) dX11_runFromRow_58 (by decide) rfl ?_
        refine AW.aload (pc' := 62) dX11_runFromRow_60 rfl ?_
        refine AW.iload (pc' := 64) dX11_runFromRow_62 rfl ?_
        refine AW.iconst (pc' := 65) dX11_runFromRow_64 ?_
        refine AW.iadd (pc' := 66) dX11_runFromRow_65 ?_
        first | refine AW.laldN (pc' := 67) dX11_runFromRow_66 ly_56 (by first | assumption | omega | (constructor <;> omega) | (simp only [Int.toNat_natCast]; omega) | exact b2_in _) (by decide) (fun r66 => ?_) | refine AW.lald (pc' := 67) dX11_runFromRow_66 ly_56 (by first | assumption | omega | (constructor <;> omega) | (simp only [Int.toNat_natCast]; omega) | exact b2_in _) (by first | assumption | omega | (constructor <;> omega) | (simp only [Int.toNat_natCast]; omega) | exact b2_in _) (by decide) (fun r66 => ?_)
        try simp only [Int.reduceToNat, f1, f2, f3, f4] at r66 ⊢
        refine AW.l2i (pc' := 68) dX11_runFromRow_67 ?_
        refine AW.cong (b := wr (h (51 + 5) (b.toNat + 2))) (wr_of _) ?_
        have i2 := wr_in (h (51 + 5) (b.toNat + 2))
        generalize hw2 : wr (h (51 + 5) (b.toNat + 2)) = w2 at i2 ⊢
        refine AW.istore8 (pc' := 70) dX11_runFromRow_68 (by decide) rfl ?_
        refine AW.aload (pc' := 72) dX11_runFromRow_70 rfl ?_
        refine AW.iload (pc' := 74) dX11_runFromRow_72 rfl ?_
        refine AW.iconst (pc' := 75) dX11_runFromRow_74 ?_
        refine AW.iadd (pc' := 76) dX11_runFromRow_75 ?_
        first | refine AW.laldN (pc' := 77) dX11_runFromRow_76 ly_56 (by first | assumption | omega | (constructor <;> omega) | (simp only [Int.toNat_natCast]; omega) | exact b2_in _) (by decide) (fun r76 => ?_) | refine AW.lald (pc' := 77) dX11_runFromRow_76 ly_56 (by first | assumption | omega | (constructor <;> omega) | (simp only [Int.toNat_natCast]; omega) | exact b2_in _) (by first | assumption | omega | (constructor <;> omega) | (simp only [Int.toNat_natCast]; omega) | exact b2_in _) (by decide) (fun r76 => ?_)
        try simp only [Int.reduceToNat, f1, f2, f3, f4] at r76 ⊢
        refine AW.l2i (pc' := 78) dX11_runFromRow_77 ?_
        refine AW.cong (b := wr (h (51 + 5) (b.toNat + 3))) (wr_of _) ?_
        have i3 := wr_in (h (51 + 5) (b.toNat + 3))
        generalize hw3 : wr (h (51 + 5) (b.toNat + 3)) = w3 at i3 ⊢
        refine AW.istore9 (pc' := 80) dX11_runFromRow_78 (by decide) rfl ?_
        refine AW.aload (pc' := 82) dX11_runFromRow_80 rfl ?_
        refine AW.iload (pc' := 84) dX11_runFromRow_82 rfl ?_
        refine AW.iconst (pc' := 85) dX11_runFromRow_84 ?_
        refine AW.iadd (pc' := 86) dX11_runFromRow_85 ?_
        first | refine AW.laldN (pc' := 87) dX11_runFromRow_86 ly_56 (by first | assumption | omega | (constructor <;> omega) | (simp only [Int.toNat_natCast]; omega) | exact b2_in _) (by decide) (fun r86 => ?_) | refine AW.lald (pc' := 87) dX11_runFromRow_86 ly_56 (by first | assumption | omega | (constructor <;> omega) | (simp only [Int.toNat_natCast]; omega) | exact b2_in _) (by first | assumption | omega | (constructor <;> omega) | (simp only [Int.toNat_natCast]; omega) | exact b2_in _) (by decide) (fun r86 => ?_)
        try simp only [Int.reduceToNat, f1, f2, f3, f4] at r86 ⊢
        refine AW.l2i (pc' := 88) dX11_runFromRow_87 ?_
        refine AW.cong (b := wr (h (51 + 5) (b.toNat + 4))) (wr_of _) ?_
        have i4 := wr_in (h (51 + 5) (b.toNat + 4))
        generalize hw4 : wr (h (51 + 5) (b.toNat + 4)) = w4 at i4 ⊢
        refine AW.istore10 (pc' := 90) dX11_runFromRow_88 (by decide) rfl ?_
        refine AW.aload_n (pc' := 91) dX11_runFromRow_90 rfl ?_
        refine AW.iload (pc' := 93) dX11_runFromRow_91 rfl ?_
        refine AW.iload (pc' := 95) dX11_runFromRow_93 rfl ?_
        refine AW.iload (pc' := 97) dX11_runFromRow_95 rfl ?_
        refine AW.iload (pc' := 99) dX11_runFromRow_97 rfl ?_
        refine AW.iload (pc' := 101) dX11_runFromRow_99 rfl ?_
        refine AW.invV5 (pc' := 104) dX11_runFromRow_101 mlX11_104 mX11_isRun ly_0 rfl (c_X11_isRun (dep := dep - 1) (by first | assumption | omega | (constructor <;> omega) | (simp only [Int.toNat_natCast]; omega) | exact b2_in _) (by first | assumption | omega | (constructor <;> omega) | (simp only [Int.toNat_natCast]; omega) | exact b2_in _) (by first | assumption | omega | (constructor <;> omega) | (simp only [Int.toNat_natCast]; omega) | exact b2_in _) (by first | assumption | omega | (constructor <;> omega) | (simp only [Int.toNat_natCast]; omega) | exact b2_in _) (by first | assumption | omega | (constructor <;> omega) | (simp only [Int.toNat_natCast]; omega) | exact b2_in _) (by first | assumption | omega | (constructor <;> omega) | (simp only [Int.toNat_natCast]; omega) | exact b2_in _)) ?_
        try simp only [Int.toNat_natCast, Int.reduceToNat, f1, f2, f3, f4]
        refine AW.ifb_eq (tgt := 133) (pc' := 107) dX11_runFromRow_104 (fun c104 => ?_) (fun c104 => ?_)
        · refine AW.iconst (pc' := 134) dX11_runFromRow_133 ?_
          refine AW.zret dX11_runFromRow_134 ?_ ?_ (by first | exact Or.inl rfl | exact Or.inr rfl | exact b2_01 _ | assumption | (subst_vars; omega))
          · first | exact congrArg (fun z : Int => (some (vI z) : Option AV)) (b2_t (by unfold rfP rowP; (try simp only [Int.reduceToNat, Nat.reduceAdd, Nat.add_zero] at *); (try simp only [hw0, hw1, hw2, hw3, hw4]); omega)) | exact congrArg (fun z : Int => (some (vI z) : Option AV)) (b2_f (by unfold rfP rowP; (try simp only [Int.reduceToNat, Nat.reduceAdd, Nat.add_zero] at *); (try simp only [hw0, hw1, hw2, hw3, hw4]); omega)) | exact congrArg (fun z : Int => (some (vI z) : Option AV)) (b2_t (by unfold rfP rowP; (try simp only [Int.reduceToNat, Nat.reduceAdd, Nat.add_zero] at *); (try simp only [hw0, hw1, hw2, hw3, hw4]); omega)).symm | exact congrArg (fun z : Int => (some (vI z) : Option AV)) (b2_f (by unfold rfP rowP; (try simp only [Int.reduceToNat, Nat.reduceAdd, Nat.add_zero] at *); (try simp only [hw0, hw1, hw2, hw3, hw4]); omega)).symm
          · first | exact Or.inl ⟨(by unfold rfP rowP; (try simp only [Int.reduceToNat, Nat.reduceAdd, Nat.add_zero] at *); (try simp only [hw0, hw1, hw2, hw3, hw4]); omega), rfl⟩ | exact Or.inr ⟨(by unfold rfP rowP; (try simp only [Int.reduceToNat, Nat.reduceAdd, Nat.add_zero] at *); (try simp only [hw0, hw1, hw2, hw3, hw4]); omega), by subst hw0 hw1 hw2 hw3 hw4; exact s121⟩
        · by_cases full : 120 ≤ h 12 10
          · skip
            refine AW.aload_n (pc' := 108) dX11_runFromRow_107 rfl ?_
            refine AW.getR (pc' := 111) dX11_runFromRow_108 ly_0 fX11_35 rfl ?_
            refine AW.iload (pc' := 113) dX11_runFromRow_111 rfl ?_
            refine AW.iload (pc' := 115) dX11_runFromRow_113 rfl ?_
            refine AW.iload (pc' := 117) dX11_runFromRow_115 rfl ?_
            refine AW.iload (pc' := 119) dX11_runFromRow_117 rfl ?_
            refine AW.iload (pc' := 121) dX11_runFromRow_119 rfl ?_
            refine AW.invV5 (pc' := 124) dX11_runFromRow_121 mlX11_108 mX7_come ly_12 rfl (c_X7_comeFull (dep := dep - 1) (by first | assumption | omega | (constructor <;> omega) | (simp only [Int.toNat_natCast]; omega) | exact b2_in _) (by first | assumption | omega | (constructor <;> omega) | (simp only [Int.toNat_natCast]; omega) | exact b2_in _) (by first | assumption | omega | (constructor <;> omega) | (simp only [Int.toNat_natCast]; omega) | exact b2_in _) (by first | assumption | omega | (constructor <;> omega) | (simp only [Int.toNat_natCast]; omega) | exact b2_in _) (by first | assumption | omega | (constructor <;> omega) | (simp only [Int.toNat_natCast]; omega) | exact b2_in _) (by first | assumption | omega | (constructor <;> omega) | (simp only [Int.toNat_natCast]; omega) | exact b2_in _)) ?_
            try simp only [Int.toNat_natCast, Int.reduceToNat, f1, f2, f3, f4]
            refine AW.bipush (pc' := 126) dX11_runFromRow_124 (by decide) ?_
            refine AW.icmp_eq (tgt := 133) (pc' := 129) dX11_runFromRow_126 (by first | assumption | omega | (constructor <;> omega) | (simp only [Int.toNat_natCast]; omega) | exact b2_in _) (by first | assumption | omega | (constructor <;> omega) | (simp only [Int.toNat_natCast]; omega) | exact b2_in _) (fun c126 => ?_) (fun c126 => ?_)
            · refine AW.iconst (pc' := 134) dX11_runFromRow_133 ?_
              refine AW.zret dX11_runFromRow_134 ?_ ?_ (by first | exact Or.inl rfl | exact Or.inr rfl | exact b2_01 _ | assumption | (subst_vars; omega))
              · first | exact congrArg (fun z : Int => (some (vI z) : Option AV)) (b2_t (by unfold rfP rowP; (try simp only [Int.reduceToNat, Nat.reduceAdd, Nat.add_zero] at *); (try simp only [hw0, hw1, hw2, hw3, hw4]); omega)) | exact congrArg (fun z : Int => (some (vI z) : Option AV)) (b2_f (by unfold rfP rowP; (try simp only [Int.reduceToNat, Nat.reduceAdd, Nat.add_zero] at *); (try simp only [hw0, hw1, hw2, hw3, hw4]); omega)) | exact congrArg (fun z : Int => (some (vI z) : Option AV)) (b2_t (by unfold rfP rowP; (try simp only [Int.reduceToNat, Nat.reduceAdd, Nat.add_zero] at *); (try simp only [hw0, hw1, hw2, hw3, hw4]); omega)).symm | exact congrArg (fun z : Int => (some (vI z) : Option AV)) (b2_f (by unfold rfP rowP; (try simp only [Int.reduceToNat, Nat.reduceAdd, Nat.add_zero] at *); (try simp only [hw0, hw1, hw2, hw3, hw4]); omega)).symm
              · first | exact Or.inl ⟨(by unfold rfP rowP; (try simp only [Int.reduceToNat, Nat.reduceAdd, Nat.add_zero] at *); (try simp only [hw0, hw1, hw2, hw3, hw4]); omega), rfl⟩ | exact Or.inr ⟨(by unfold rfP rowP; (try simp only [Int.reduceToNat, Nat.reduceAdd, Nat.add_zero] at *); (try simp only [hw0, hw1, hw2, hw3, hw4]); omega), by subst hw0 hw1 hw2 hw3 hw4; exact s121⟩
            · refine AW.iconst (pc' := 130) dX11_runFromRow_129 ?_
              refine AW.goto (tgt := 134) dX11_runFromRow_130 ?_
              refine AW.zret dX11_runFromRow_134 ?_ ?_ (by first | exact Or.inl rfl | exact Or.inr rfl | exact b2_01 _ | assumption | (subst_vars; omega))
              · first | exact congrArg (fun z : Int => (some (vI z) : Option AV)) (b2_t (by unfold rfP rowP; (try simp only [Int.reduceToNat, Nat.reduceAdd, Nat.add_zero] at *); (try simp only [hw0, hw1, hw2, hw3, hw4]); omega)) | exact congrArg (fun z : Int => (some (vI z) : Option AV)) (b2_f (by unfold rfP rowP; (try simp only [Int.reduceToNat, Nat.reduceAdd, Nat.add_zero] at *); (try simp only [hw0, hw1, hw2, hw3, hw4]); omega)) | exact congrArg (fun z : Int => (some (vI z) : Option AV)) (b2_t (by unfold rfP rowP; (try simp only [Int.reduceToNat, Nat.reduceAdd, Nat.add_zero] at *); (try simp only [hw0, hw1, hw2, hw3, hw4]); omega)).symm | exact congrArg (fun z : Int => (some (vI z) : Option AV)) (b2_f (by unfold rfP rowP; (try simp only [Int.reduceToNat, Nat.reduceAdd, Nat.add_zero] at *); (try simp only [hw0, hw1, hw2, hw3, hw4]); omega)).symm
              · first | exact Or.inl ⟨(by unfold rfP rowP; (try simp only [Int.reduceToNat, Nat.reduceAdd, Nat.add_zero] at *); (try simp only [hw0, hw1, hw2, hw3, hw4]); omega), rfl⟩ | exact Or.inr ⟨(by unfold rfP rowP; (try simp only [Int.reduceToNat, Nat.reduceAdd, Nat.add_zero] at *); (try simp only [hw0, hw1, hw2, hw3, hw4]); omega), by subst hw0 hw1 hw2 hw3 hw4; exact s121⟩
          · skip
            refine AW.aload_n (pc' := 108) dX11_runFromRow_107 rfl ?_
            refine AW.getR (pc' := 111) dX11_runFromRow_108 ly_0 fX11_35 rfl ?_
            refine AW.iload (pc' := 113) dX11_runFromRow_111 rfl ?_
            refine AW.iload (pc' := 115) dX11_runFromRow_113 rfl ?_
            refine AW.iload (pc' := 117) dX11_runFromRow_115 rfl ?_
            refine AW.iload (pc' := 119) dX11_runFromRow_117 rfl ?_
            refine AW.iload (pc' := 121) dX11_runFromRow_119 rfl ?_
            refine AW.invQ5 (pc' := 124) dX11_runFromRow_121 mlX11_108 mX7_come ly_12 rfl (c_X7_come (dep := dep - 1) (by omega) (by omega) hQ1 hQ2 (by first | assumption | omega | (constructor <;> omega) | (simp only [Int.toNat_natCast]; omega) | exact b2_in _) (by first | assumption | omega | (constructor <;> omega) | (simp only [Int.toNat_natCast]; omega) | exact b2_in _) (by first | assumption | omega | (constructor <;> omega) | (simp only [Int.toNat_natCast]; omega) | exact b2_in _) (by first | assumption | omega | (constructor <;> omega) | (simp only [Int.toNat_natCast]; omega) | exact b2_in _) (by first | assumption | omega | (constructor <;> omega) | (simp only [Int.toNat_natCast]; omega) | exact b2_in _)) (fun h121 s121 => ?_)
            try simp only [Int.toNat_natCast, Int.reduceToNat, f1, f2, f3, f4]
            refine AW.bipush (pc' := 126) dX11_runFromRow_124 (by decide) ?_
            refine AW.icmp_eq (tgt := 133) (pc' := 129) dX11_runFromRow_126 (by first | assumption | omega | (constructor <;> omega) | (simp only [Int.toNat_natCast]; omega) | exact b2_in _) (by first | assumption | omega | (constructor <;> omega) | (simp only [Int.toNat_natCast]; omega) | exact b2_in _) (fun c126 => ?_) (fun c126 => ?_)
            · refine AW.iconst (pc' := 134) dX11_runFromRow_133 ?_
              refine AW.zret dX11_runFromRow_134 ?_ ?_ (by first | exact Or.inl rfl | exact Or.inr rfl | exact b2_01 _ | assumption | (subst_vars; omega))
              · first | exact congrArg (fun z : Int => (some (vI z) : Option AV)) (b2_t (by unfold rfP rowP; (try simp only [Int.reduceToNat, Nat.reduceAdd, Nat.add_zero] at *); (try simp only [hw0, hw1, hw2, hw3, hw4]); omega)) | exact congrArg (fun z : Int => (some (vI z) : Option AV)) (b2_f (by unfold rfP rowP; (try simp only [Int.reduceToNat, Nat.reduceAdd, Nat.add_zero] at *); (try simp only [hw0, hw1, hw2, hw3, hw4]); omega)) | exact congrArg (fun z : Int => (some (vI z) : Option AV)) (b2_t (by unfold rfP rowP; (try simp only [Int.reduceToNat, Nat.reduceAdd, Nat.add_zero] at *); (try simp only [hw0, hw1, hw2, hw3, hw4]); omega)).symm | exact congrArg (fun z : Int => (some (vI z) : Option AV)) (b2_f (by unfold rfP rowP; (try simp only [Int.reduceToNat, Nat.reduceAdd, Nat.add_zero] at *); (try simp only [hw0, hw1, hw2, hw3, hw4]); omega)).symm
              · first | exact Or.inl ⟨(by unfold rfP rowP; (try simp only [Int.reduceToNat, Nat.reduceAdd, Nat.add_zero] at *); (try simp only [hw0, hw1, hw2, hw3, hw4]); omega), rfl⟩ | exact Or.inr ⟨(by unfold rfP rowP; (try simp only [Int.reduceToNat, Nat.reduceAdd, Nat.add_zero] at *); (try simp only [hw0, hw1, hw2, hw3, hw4]); omega), by subst hw0 hw1 hw2 hw3 hw4; exact s121⟩
            · refine AW.iconst (pc' := 130) dX11_runFromRow_129 ?_
              refine AW.goto (tgt := 134) dX11_runFromRow_130 ?_
              refine AW.zret dX11_runFromRow_134 ?_ ?_ (by first | exact Or.inl rfl | exact Or.inr rfl | exact b2_01 _ | assumption | (subst_vars; omega))
              · first | exact congrArg (fun z : Int => (some (vI z) : Option AV)) (b2_t (by unfold rfP rowP; (try simp only [Int.reduceToNat, Nat.reduceAdd, Nat.add_zero] at *); (try simp only [hw0, hw1, hw2, hw3, hw4]); omega)) | exact congrArg (fun z : Int => (some (vI z) : Option AV)) (b2_f (by unfold rfP rowP; (try simp only [Int.reduceToNat, Nat.reduceAdd, Nat.add_zero] at *); (try simp only [hw0, hw1, hw2, hw3, hw4]); omega)) | exact congrArg (fun z : Int => (some (vI z) : Option AV)) (b2_t (by unfold rfP rowP; (try simp only [Int.reduceToNat, Nat.reduceAdd, Nat.add_zero] at *); (try simp only [hw0, hw1, hw2, hw3, hw4]); omega)).symm | exact congrArg (fun z : Int => (some (vI z) : Option AV)) (b2_f (by unfold rfP rowP; (try simp only [Int.reduceToNat, Nat.reduceAdd, Nat.add_zero] at *); (try simp only [hw0, hw1, hw2, hw3, hw4]); omega)).symm
              · first | exact Or.inl ⟨(by unfold rfP rowP; (try simp only [Int.reduceToNat, Nat.reduceAdd, Nat.add_zero] at *); (try simp only [hw0, hw1, hw2, hw3, hw4]); omega), rfl⟩ | exact Or.inr ⟨(by unfold rfP rowP; (try simp only [Int.reduceToNat, Nat.reduceAdd, Nat.add_zero] at *); (try simp only [hw0, hw1, hw2, hw3, hw4]); omega), by subst hw0 hw1 hw2 hw3 hw4; exact s121⟩
      exfalso
      omega
    · simp only [cmpI_lt, cmpI_le, cmpI_gt, cmpI_ge, cmpI_eq, cmpI_ne] at c22
      refine AW.iconst (pc' := 26) dX11_runFromRow_25 ?_
      refine AW.zret dX11_runFromRow_26 ?_ ?_ (by first | exact Or.inl rfl | exact Or.inr rfl | exact b2_01 _ | assumption | (subst_vars; omega))
      · first | exact congrArg (fun z : Int => (some (vI z) : Option AV)) (b2_t (by unfold rfP rowP; (try simp only [Int.reduceToNat, Nat.reduceAdd, Nat.add_zero] at *); (try simp only [hw0, hw1, hw2, hw3, hw4]); omega)) | exact congrArg (fun z : Int => (some (vI z) : Option AV)) (b2_f (by unfold rfP rowP; (try simp only [Int.reduceToNat, Nat.reduceAdd, Nat.add_zero] at *); (try simp only [hw0, hw1, hw2, hw3, hw4]); omega)) | exact congrArg (fun z : Int => (some (vI z) : Option AV)) (b2_t (by unfold rfP rowP; (try simp only [Int.reduceToNat, Nat.reduceAdd, Nat.add_zero] at *); (try simp only [hw0, hw1, hw2, hw3, hw4]); omega)).symm | exact congrArg (fun z : Int => (some (vI z) : Option AV)) (b2_f (by unfold rfP rowP; (try simp only [Int.reduceToNat, Nat.reduceAdd, Nat.add_zero] at *); (try simp only [hw0, hw1, hw2, hw3, hw4]); omega)).symm
      · first | exact Or.inl ⟨(by unfold rfP rowP; (try simp only [Int.reduceToNat, Nat.reduceAdd, Nat.add_zero] at *); (try simp only [hw0, hw1, hw2, hw3, hw4]); omega), rfl⟩ | exact Or.inr ⟨(by unfold rfP rowP; (try simp only [Int.reduceToNat, Nat.reduceAdd, Nat.add_zero] at *); (try simp only [hw0, hw1, hw2, hw3, hw4]); omega), by subst hw0 hw1 hw2 hw3 hw4; exact s121⟩
set_option maxRecDepth 100000 in
set_option maxHeartbeats 4000000 in
theorem tl_X11_shift00 {K : KT}  {dep : Nat} {h : Hp} {b d e x6 x7 : Int} (q0 : 0 ≤ b ∧ 0 ≤ d ∧ 0 ≤ e) (q1 : b + e ≤ 60) (q2 : d + e ≤ 60) (hd : 1 ≤ dep) :  AW K (XM K (some (vI e)) (hcpy h 51 51 b.toNat d.toNat e.toNat)) RX11 cX11_shift 8 (some .int) dep 111 [some (vR 0), some (vI (0)), some (vI (b)), some (vI (0)), some (vI (d)), some (vI (e)), some (vI (x6)), some (vI (x7))] [] h := by
  refine AW.aload_n (pc' := 112) dX11_shift_111 rfl ?_
  refine AW.getR (pc' := 115) dX11_shift_112 ly_0 fX11_81 rfl ?_
  refine AW.getR (pc' := 118) dX11_shift_115 ly_46 fX11_128 rfl ?_
  refine AW.iload_n (pc' := 119) dX11_shift_118 rfl ?_
  refine AW.aaldL (t := 51) (pc' := 120) dX11_shift_119 ly_50 (by decide) (by decide) (by decide) rfl ?_
  refine AW.iload_n (pc' := 121) dX11_shift_120 rfl ?_
  refine AW.aload_n (pc' := 122) dX11_shift_121 rfl ?_
  refine AW.getR (pc' := 125) dX11_shift_122 ly_0 fX11_81 rfl ?_
  refine AW.getR (pc' := 128) dX11_shift_125 ly_46 fX11_128 rfl ?_
  refine AW.iload_n (pc' := 129) dX11_shift_128 rfl ?_
  refine AW.aaldL (t := 51) (pc' := 130) dX11_shift_129 ly_50 (by decide) (by decide) (by decide) rfl ?_
  refine AW.iload (pc' := 132) dX11_shift_130 rfl ?_
  refine AW.iload (pc' := 134) dX11_shift_132 rfl ?_
  refine AW.copyL (pc' := 137) dX11_shift_134 mlX11_330 ly_51 ly_51 (by first | assumption | omega | (constructor <;> omega) | (simp only [Int.toNat_natCast]; omega) | exact b2_in _) (by first | assumption | omega | (constructor <;> omega) | (simp only [Int.toNat_natCast]; omega) | exact b2_in _) (by first | assumption | omega | (constructor <;> omega) | (simp only [Int.toNat_natCast]; omega) | exact b2_in _) (by first | assumption | omega | (constructor <;> omega) | (simp only [Int.toNat_natCast]; omega) | exact b2_in _) (by first | assumption | omega | (constructor <;> omega) | (simp only [Int.toNat_natCast]; omega) | exact b2_in _) (by decide) (by decide) ?_
  refine AW.iload (pc' := 139) dX11_shift_137 rfl ?_
  refine AW.iret dX11_shift_139 ?_ ?_
  · rfl
  · rfl
set_option maxRecDepth 100000 in
set_option maxHeartbeats 4000000 in
theorem tl_X11_shift01 {K : KT}  {dep : Nat} {h : Hp} {b d e x6 x7 : Int} (q0 : 0 ≤ b ∧ 0 ≤ d ∧ 0 ≤ e) (q1 : b + e ≤ 60) (q2 : d + e ≤ 60) (hd : 1 ≤ dep) :  AW K (XM K (some (vI e)) (hcpy h 51 52 b.toNat d.toNat e.toNat)) RX11 cX11_shift 8 (some .int) dep 111 [some (vR 0), some (vI (0)), some (vI (b)), some (vI (1)), some (vI (d)), some (vI (e)), some (vI (x6)), some (vI (x7))] [] h := by
  refine AW.aload_n (pc' := 112) dX11_shift_111 rfl ?_
  refine AW.getR (pc' := 115) dX11_shift_112 ly_0 fX11_81 rfl ?_
  refine AW.getR (pc' := 118) dX11_shift_115 ly_46 fX11_128 rfl ?_
  refine AW.iload_n (pc' := 119) dX11_shift_118 rfl ?_
  refine AW.aaldL (t := 51) (pc' := 120) dX11_shift_119 ly_50 (by decide) (by decide) (by decide) rfl ?_
  refine AW.iload_n (pc' := 121) dX11_shift_120 rfl ?_
  refine AW.aload_n (pc' := 122) dX11_shift_121 rfl ?_
  refine AW.getR (pc' := 125) dX11_shift_122 ly_0 fX11_81 rfl ?_
  refine AW.getR (pc' := 128) dX11_shift_125 ly_46 fX11_128 rfl ?_
  refine AW.iload_n (pc' := 129) dX11_shift_128 rfl ?_
  refine AW.aaldL (t := 52) (pc' := 130) dX11_shift_129 ly_50 (by decide) (by decide) (by decide) rfl ?_
  refine AW.iload (pc' := 132) dX11_shift_130 rfl ?_
  refine AW.iload (pc' := 134) dX11_shift_132 rfl ?_
  refine AW.copyL (pc' := 137) dX11_shift_134 mlX11_330 ly_51 ly_52 (by first | assumption | omega | (constructor <;> omega) | (simp only [Int.toNat_natCast]; omega) | exact b2_in _) (by first | assumption | omega | (constructor <;> omega) | (simp only [Int.toNat_natCast]; omega) | exact b2_in _) (by first | assumption | omega | (constructor <;> omega) | (simp only [Int.toNat_natCast]; omega) | exact b2_in _) (by first | assumption | omega | (constructor <;> omega) | (simp only [Int.toNat_natCast]; omega) | exact b2_in _) (by first | assumption | omega | (constructor <;> omega) | (simp only [Int.toNat_natCast]; omega) | exact b2_in _) (by decide) (by decide) ?_
  refine AW.iload (pc' := 139) dX11_shift_137 rfl ?_
  refine AW.iret dX11_shift_139 ?_ ?_
  · rfl
  · rfl
set_option maxRecDepth 100000 in
set_option maxHeartbeats 4000000 in
theorem tl_X11_shift02 {K : KT}  {dep : Nat} {h : Hp} {b d e x6 x7 : Int} (q0 : 0 ≤ b ∧ 0 ≤ d ∧ 0 ≤ e) (q1 : b + e ≤ 60) (q2 : d + e ≤ 60) (hd : 1 ≤ dep) :  AW K (XM K (some (vI e)) (hcpy h 51 53 b.toNat d.toNat e.toNat)) RX11 cX11_shift 8 (some .int) dep 111 [some (vR 0), some (vI (0)), some (vI (b)), some (vI (2)), some (vI (d)), some (vI (e)), some (vI (x6)), some (vI (x7))] [] h := by
  refine AW.aload_n (pc' := 112) dX11_shift_111 rfl ?_
  refine AW.getR (pc' := 115) dX11_shift_112 ly_0 fX11_81 rfl ?_
  refine AW.getR (pc' := 118) dX11_shift_115 ly_46 fX11_128 rfl ?_
  refine AW.iload_n (pc' := 119) dX11_shift_118 rfl ?_
  refine AW.aaldL (t := 51) (pc' := 120) dX11_shift_119 ly_50 (by decide) (by decide) (by decide) rfl ?_
  refine AW.iload_n (pc' := 121) dX11_shift_120 rfl ?_
  refine AW.aload_n (pc' := 122) dX11_shift_121 rfl ?_
  refine AW.getR (pc' := 125) dX11_shift_122 ly_0 fX11_81 rfl ?_
  refine AW.getR (pc' := 128) dX11_shift_125 ly_46 fX11_128 rfl ?_
  refine AW.iload_n (pc' := 129) dX11_shift_128 rfl ?_
  refine AW.aaldL (t := 53) (pc' := 130) dX11_shift_129 ly_50 (by decide) (by decide) (by decide) rfl ?_
  refine AW.iload (pc' := 132) dX11_shift_130 rfl ?_
  refine AW.iload (pc' := 134) dX11_shift_132 rfl ?_
  refine AW.copyL (pc' := 137) dX11_shift_134 mlX11_330 ly_51 ly_53 (by first | assumption | omega | (constructor <;> omega) | (simp only [Int.toNat_natCast]; omega) | exact b2_in _) (by first | assumption | omega | (constructor <;> omega) | (simp only [Int.toNat_natCast]; omega) | exact b2_in _) (by first | assumption | omega | (constructor <;> omega) | (simp only [Int.toNat_natCast]; omega) | exact b2_in _) (by first | assumption | omega | (constructor <;> omega) | (simp only [Int.toNat_natCast]; omega) | exact b2_in _) (by first | assumption | omega | (constructor <;> omega) | (simp only [Int.toNat_natCast]; omega) | exact b2_in _) (by decide) (by decide) ?_
  refine AW.iload (pc' := 139) dX11_shift_137 rfl ?_
  refine AW.iret dX11_shift_139 ?_ ?_
  · rfl
  · rfl
set_option maxRecDepth 100000 in
set_option maxHeartbeats 4000000 in
theorem tl_X11_shift03 {K : KT}  {dep : Nat} {h : Hp} {b d e x6 x7 : Int} (q0 : 0 ≤ b ∧ 0 ≤ d ∧ 0 ≤ e) (q1 : b + e ≤ 60) (q2 : d + e ≤ 60) (hd : 1 ≤ dep) :  AW K (XM K (some (vI e)) (hcpy h 51 54 b.toNat d.toNat e.toNat)) RX11 cX11_shift 8 (some .int) dep 111 [some (vR 0), some (vI (0)), some (vI (b)), some (vI (3)), some (vI (d)), some (vI (e)), some (vI (x6)), some (vI (x7))] [] h := by
  refine AW.aload_n (pc' := 112) dX11_shift_111 rfl ?_
  refine AW.getR (pc' := 115) dX11_shift_112 ly_0 fX11_81 rfl ?_
  refine AW.getR (pc' := 118) dX11_shift_115 ly_46 fX11_128 rfl ?_
  refine AW.iload_n (pc' := 119) dX11_shift_118 rfl ?_
  refine AW.aaldL (t := 51) (pc' := 120) dX11_shift_119 ly_50 (by decide) (by decide) (by decide) rfl ?_
  refine AW.iload_n (pc' := 121) dX11_shift_120 rfl ?_
  refine AW.aload_n (pc' := 122) dX11_shift_121 rfl ?_
  refine AW.getR (pc' := 125) dX11_shift_122 ly_0 fX11_81 rfl ?_
  refine AW.getR (pc' := 128) dX11_shift_125 ly_46 fX11_128 rfl ?_
  refine AW.iload_n (pc' := 129) dX11_shift_128 rfl ?_
  refine AW.aaldL (t := 54) (pc' := 130) dX11_shift_129 ly_50 (by decide) (by decide) (by decide) rfl ?_
  refine AW.iload (pc' := 132) dX11_shift_130 rfl ?_
  refine AW.iload (pc' := 134) dX11_shift_132 rfl ?_
  refine AW.copyL (pc' := 137) dX11_shift_134 mlX11_330 ly_51 ly_54 (by first | assumption | omega | (constructor <;> omega) | (simp only [Int.toNat_natCast]; omega) | exact b2_in _) (by first | assumption | omega | (constructor <;> omega) | (simp only [Int.toNat_natCast]; omega) | exact b2_in _) (by first | assumption | omega | (constructor <;> omega) | (simp only [Int.toNat_natCast]; omega) | exact b2_in _) (by first | assumption | omega | (constructor <;> omega) | (simp only [Int.toNat_natCast]; omega) | exact b2_in _) (by first | assumption | omega | (constructor <;> omega) | (simp only [Int.toNat_natCast]; omega) | exact b2_in _) (by decide) (by decide) ?_
  refine AW.iload (pc' := 139) dX11_shift_137 rfl ?_
  refine AW.iret dX11_shift_139 ?_ ?_
  · rfl
  · rfl
set_option maxRecDepth 100000 in
set_option maxHeartbeats 4000000 in
theorem tl_X11_shift04 {K : KT}  {dep : Nat} {h : Hp} {b d e x6 x7 : Int} (q0 : 0 ≤ b ∧ 0 ≤ d ∧ 0 ≤ e) (q1 : b + e ≤ 60) (q2 : d + e ≤ 60) (hd : 1 ≤ dep) :  AW K (XM K (some (vI e)) (hcpy h 51 55 b.toNat d.toNat e.toNat)) RX11 cX11_shift 8 (some .int) dep 111 [some (vR 0), some (vI (0)), some (vI (b)), some (vI (4)), some (vI (d)), some (vI (e)), some (vI (x6)), some (vI (x7))] [] h := by
  refine AW.aload_n (pc' := 112) dX11_shift_111 rfl ?_
  refine AW.getR (pc' := 115) dX11_shift_112 ly_0 fX11_81 rfl ?_
  refine AW.getR (pc' := 118) dX11_shift_115 ly_46 fX11_128 rfl ?_
  refine AW.iload_n (pc' := 119) dX11_shift_118 rfl ?_
  refine AW.aaldL (t := 51) (pc' := 120) dX11_shift_119 ly_50 (by decide) (by decide) (by decide) rfl ?_
  refine AW.iload_n (pc' := 121) dX11_shift_120 rfl ?_
  refine AW.aload_n (pc' := 122) dX11_shift_121 rfl ?_
  refine AW.getR (pc' := 125) dX11_shift_122 ly_0 fX11_81 rfl ?_
  refine AW.getR (pc' := 128) dX11_shift_125 ly_46 fX11_128 rfl ?_
  refine AW.iload_n (pc' := 129) dX11_shift_128 rfl ?_
  refine AW.aaldL (t := 55) (pc' := 130) dX11_shift_129 ly_50 (by decide) (by decide) (by decide) rfl ?_
  refine AW.iload (pc' := 132) dX11_shift_130 rfl ?_
  refine AW.iload (pc' := 134) dX11_shift_132 rfl ?_
  refine AW.copyL (pc' := 137) dX11_shift_134 mlX11_330 ly_51 ly_55 (by first | assumption | omega | (constructor <;> omega) | (simp only [Int.toNat_natCast]; omega) | exact b2_in _) (by first | assumption | omega | (constructor <;> omega) | (simp only [Int.toNat_natCast]; omega) | exact b2_in _) (by first | assumption | omega | (constructor <;> omega) | (simp only [Int.toNat_natCast]; omega) | exact b2_in _) (by first | assumption | omega | (constructor <;> omega) | (simp only [Int.toNat_natCast]; omega) | exact b2_in _) (by first | assumption | omega | (constructor <;> omega) | (simp only [Int.toNat_natCast]; omega) | exact b2_in _) (by decide) (by decide) ?_
  refine AW.iload (pc' := 139) dX11_shift_137 rfl ?_
  refine AW.iret dX11_shift_139 ?_ ?_
  · rfl
  · rfl
set_option maxRecDepth 100000 in
set_option maxHeartbeats 4000000 in
theorem tl_X11_shift05 {K : KT}  {dep : Nat} {h : Hp} {b d e x6 x7 : Int} (q0 : 0 ≤ b ∧ 0 ≤ d ∧ 0 ≤ e) (q1 : b + e ≤ 60) (q2 : d + e ≤ 60) (hd : 1 ≤ dep) :  AW K (XM K (some (vI e)) (hcpy h 51 56 b.toNat d.toNat e.toNat)) RX11 cX11_shift 8 (some .int) dep 111 [some (vR 0), some (vI (0)), some (vI (b)), some (vI (5)), some (vI (d)), some (vI (e)), some (vI (x6)), some (vI (x7))] [] h := by
  refine AW.aload_n (pc' := 112) dX11_shift_111 rfl ?_
  refine AW.getR (pc' := 115) dX11_shift_112 ly_0 fX11_81 rfl ?_
  refine AW.getR (pc' := 118) dX11_shift_115 ly_46 fX11_128 rfl ?_
  refine AW.iload_n (pc' := 119) dX11_shift_118 rfl ?_
  refine AW.aaldL (t := 51) (pc' := 120) dX11_shift_119 ly_50 (by decide) (by decide) (by decide) rfl ?_
  refine AW.iload_n (pc' := 121) dX11_shift_120 rfl ?_
  refine AW.aload_n (pc' := 122) dX11_shift_121 rfl ?_
  refine AW.getR (pc' := 125) dX11_shift_122 ly_0 fX11_81 rfl ?_
  refine AW.getR (pc' := 128) dX11_shift_125 ly_46 fX11_128 rfl ?_
  refine AW.iload_n (pc' := 129) dX11_shift_128 rfl ?_
  refine AW.aaldL (t := 56) (pc' := 130) dX11_shift_129 ly_50 (by decide) (by decide) (by decide) rfl ?_
  refine AW.iload (pc' := 132) dX11_shift_130 rfl ?_
  refine AW.iload (pc' := 134) dX11_shift_132 rfl ?_
  refine AW.copyL (pc' := 137) dX11_shift_134 mlX11_330 ly_51 ly_56 (by first | assumption | omega | (constructor <;> omega) | (simp only [Int.toNat_natCast]; omega) | exact b2_in _) (by first | assumption | omega | (constructor <;> omega) | (simp only [Int.toNat_natCast]; omega) | exact b2_in _) (by first | assumption | omega | (constructor <;> omega) | (simp only [Int.toNat_natCast]; omega) | exact b2_in _) (by first | assumption | omega | (constructor <;> omega) | (simp only [Int.toNat_natCast]; omega) | exact b2_in _) (by first | assumption | omega | (constructor <;> omega) | (simp only [Int.toNat_natCast]; omega) | exact b2_in _) (by decide) (by decide) ?_
  refine AW.iload (pc' := 139) dX11_shift_137 rfl ?_
  refine AW.iret dX11_shift_139 ?_ ?_
  · rfl
  · rfl
set_option maxRecDepth 100000 in
set_option maxHeartbeats 4000000 in
theorem tl_X11_shift10 {K : KT}  {dep : Nat} {h : Hp} {b d e x6 x7 : Int} (q0 : 0 ≤ b ∧ 0 ≤ d ∧ 0 ≤ e) (q1 : b + e ≤ 60) (q2 : d + e ≤ 60) (hd : 1 ≤ dep) :  AW K (XM K (some (vI e)) (hcpy h 52 51 b.toNat d.toNat e.toNat)) RX11 cX11_shift 8 (some .int) dep 111 [some (vR 0), some (vI (1)), some (vI (b)), some (vI (0)), some (vI (d)), some (vI (e)), some (vI (x6)), some (vI (x7))] [] h := by
  refine AW.aload_n (pc' := 112) dX11_shift_111 rfl ?_
  refine AW.getR (pc' := 115) dX11_shift_112 ly_0 fX11_81 rfl ?_
  refine AW.getR (pc' := 118) dX11_shift_115 ly_46 fX11_128 rfl ?_
  refine AW.iload_n (pc' := 119) dX11_shift_118 rfl ?_
  refine AW.aaldL (t := 52) (pc' := 120) dX11_shift_119 ly_50 (by decide) (by decide) (by decide) rfl ?_
  refine AW.iload_n (pc' := 121) dX11_shift_120 rfl ?_
  refine AW.aload_n (pc' := 122) dX11_shift_121 rfl ?_
  refine AW.getR (pc' := 125) dX11_shift_122 ly_0 fX11_81 rfl ?_
  refine AW.getR (pc' := 128) dX11_shift_125 ly_46 fX11_128 rfl ?_
  refine AW.iload_n (pc' := 129) dX11_shift_128 rfl ?_
  refine AW.aaldL (t := 51) (pc' := 130) dX11_shift_129 ly_50 (by decide) (by decide) (by decide) rfl ?_
  refine AW.iload (pc' := 132) dX11_shift_130 rfl ?_
  refine AW.iload (pc' := 134) dX11_shift_132 rfl ?_
  refine AW.copyL (pc' := 137) dX11_shift_134 mlX11_330 ly_52 ly_51 (by first | assumption | omega | (constructor <;> omega) | (simp only [Int.toNat_natCast]; omega) | exact b2_in _) (by first | assumption | omega | (constructor <;> omega) | (simp only [Int.toNat_natCast]; omega) | exact b2_in _) (by first | assumption | omega | (constructor <;> omega) | (simp only [Int.toNat_natCast]; omega) | exact b2_in _) (by first | assumption | omega | (constructor <;> omega) | (simp only [Int.toNat_natCast]; omega) | exact b2_in _) (by first | assumption | omega | (constructor <;> omega) | (simp only [Int.toNat_natCast]; omega) | exact b2_in _) (by decide) (by decide) ?_
  refine AW.iload (pc' := 139) dX11_shift_137 rfl ?_
  refine AW.iret dX11_shift_139 ?_ ?_
  · rfl
  · rfl
set_option maxRecDepth 100000 in
set_option maxHeartbeats 4000000 in
theorem tl_X11_shift11 {K : KT}  {dep : Nat} {h : Hp} {b d e x6 x7 : Int} (q0 : 0 ≤ b ∧ 0 ≤ d ∧ 0 ≤ e) (q1 : b + e ≤ 60) (q2 : d + e ≤ 60) (hd : 1 ≤ dep) :  AW K (XM K (some (vI e)) (hcpy h 52 52 b.toNat d.toNat e.toNat)) RX11 cX11_shift 8 (some .int) dep 111 [some (vR 0), some (vI (1)), some (vI (b)), some (vI (1)), some (vI (d)), some (vI (e)), some (vI (x6)), some (vI (x7))] [] h := by
  refine AW.aload_n (pc' := 112) dX11_shift_111 rfl ?_
  refine AW.getR (pc' := 115) dX11_shift_112 ly_0 fX11_81 rfl ?_
  refine AW.getR (pc' := 118) dX11_shift_115 ly_46 fX11_128 rfl ?_
  refine AW.iload_n (pc' := 119) dX11_shift_118 rfl ?_
  refine AW.aaldL (t := 52) (pc' := 120) dX11_shift_119 ly_50 (by decide) (by decide) (by decide) rfl ?_
  refine AW.iload_n (pc' := 121) dX11_shift_120 rfl ?_
  refine AW.aload_n (pc' := 122) dX11_shift_121 rfl ?_
  refine AW.getR (pc' := 125) dX11_shift_122 ly_0 fX11_81 rfl ?_
  refine AW.getR (pc' := 128) dX11_shift_125 ly_46 fX11_128 rfl ?_
  refine AW.iload_n (pc' := 129) dX11_shift_128 rfl ?_
  refine AW.aaldL (t := 52) (pc' := 130) dX11_shift_129 ly_50 (by decide) (by decide) (by decide) rfl ?_
  refine AW.iload (pc' := 132) dX11_shift_130 rfl ?_
  refine AW.iload (pc' := 134) dX11_shift_132 rfl ?_
  refine AW.copyL (pc' := 137) dX11_shift_134 mlX11_330 ly_52 ly_52 (by first | assumption | omega | (constructor <;> omega) | (simp only [Int.toNat_natCast]; omega) | exact b2_in _) (by first | assumption | omega | (constructor <;> omega) | (simp only [Int.toNat_natCast]; omega) | exact b2_in _) (by first | assumption | omega | (constructor <;> omega) | (simp only [Int.toNat_natCast]; omega) | exact b2_in _) (by first | assumption | omega | (constructor <;> omega) | (simp only [Int.toNat_natCast]; omega) | exact b2_in _) (by first | assumption | omega | (constructor <;> omega) | (simp only [Int.toNat_natCast]; omega) | exact b2_in _) (by decide) (by decide) ?_
  refine AW.iload (pc' := 139) dX11_shift_137 rfl ?_
  refine AW.iret dX11_shift_139 ?_ ?_
  · rfl
  · rfl
set_option maxRecDepth 100000 in
set_option maxHeartbeats 4000000 in
theorem tl_X11_shift12 {K : KT}  {dep : Nat} {h : Hp} {b d e x6 x7 : Int} (q0 : 0 ≤ b ∧ 0 ≤ d ∧ 0 ≤ e) (q1 : b + e ≤ 60) (q2 : d + e ≤ 60) (hd : 1 ≤ dep) :  AW K (XM K (some (vI e)) (hcpy h 52 53 b.toNat d.toNat e.toNat)) RX11 cX11_shift 8 (some .int) dep 111 [some (vR 0), some (vI (1)), some (vI (b)), some (vI (2)), some (vI (d)), some (vI (e)), some (vI (x6)), some (vI (x7))] [] h := by
  refine AW.aload_n (pc' := 112) dX11_shift_111 rfl ?_
  refine AW.getR (pc' := 115) dX11_shift_112 ly_0 fX11_81 rfl ?_
  refine AW.getR (pc' := 118) dX11_shift_115 ly_46 fX11_128 rfl ?_
  refine AW.iload_n (pc' := 119) dX11_shift_118 rfl ?_
  refine AW.aaldL (t := 52) (pc' := 120) dX11_shift_119 ly_50 (by decide) (by decide) (by decide) rfl ?_
  refine AW.iload_n (pc' := 121) dX11_shift_120 rfl ?_
  refine AW.aload_n (pc' := 122) dX11_shift_121 rfl ?_
  refine AW.getR (pc' := 125) dX11_shift_122 ly_0 fX11_81 rfl ?_
  refine AW.getR (pc' := 128) dX11_shift_125 ly_46 fX11_128 rfl ?_
  refine AW.iload_n (pc' := 129) dX11_shift_128 rfl ?_
  refine AW.aaldL (t := 53) (pc' := 130) dX11_shift_129 ly_50 (by decide) (by decide) (by decide) rfl ?_
  refine AW.iload (pc' := 132) dX11_shift_130 rfl ?_
  refine AW.iload (pc' := 134) dX11_shift_132 rfl ?_
  refine AW.copyL (pc' := 137) dX11_shift_134 mlX11_330 ly_52 ly_53 (by first | assumption | omega | (constructor <;> omega) | (simp only [Int.toNat_natCast]; omega) | exact b2_in _) (by first | assumption | omega | (constructor <;> omega) | (simp only [Int.toNat_natCast]; omega) | exact b2_in _) (by first | assumption | omega | (constructor <;> omega) | (simp only [Int.toNat_natCast]; omega) | exact b2_in _) (by first | assumption | omega | (constructor <;> omega) | (simp only [Int.toNat_natCast]; omega) | exact b2_in _) (by first | assumption | omega | (constructor <;> omega) | (simp only [Int.toNat_natCast]; omega) | exact b2_in _) (by decide) (by decide) ?_
  refine AW.iload (pc' := 139) dX11_shift_137 rfl ?_
  refine AW.iret dX11_shift_139 ?_ ?_
  · rfl
  · rfl
set_option maxRecDepth 100000 in
set_option maxHeartbeats 4000000 in
theorem tl_X11_shift13 {K : KT}  {dep : Nat} {h : Hp} {b d e x6 x7 : Int} (q0 : 0 ≤ b ∧ 0 ≤ d ∧ 0 ≤ e) (q1 : b + e ≤ 60) (q2 : d + e ≤ 60) (hd : 1 ≤ dep) :  AW K (XM K (some (vI e)) (hcpy h 52 54 b.toNat d.toNat e.toNat)) RX11 cX11_shift 8 (some .int) dep 111 [some (vR 0), some (vI (1)), some (vI (b)), some (vI (3)), some (vI (d)), some (vI (e)), some (vI (x6)), some (vI (x7))] [] h := by
  refine AW.aload_n (pc' := 112) dX11_shift_111 rfl ?_
  refine AW.getR (pc' := 115) dX11_shift_112 ly_0 fX11_81 rfl ?_
  refine AW.getR (pc' := 118) dX11_shift_115 ly_46 fX11_128 rfl ?_
  refine AW.iload_n (pc' := 119) dX11_shift_118 rfl ?_
  refine AW.aaldL (t := 52) (pc' := 120) dX11_shift_119 ly_50 (by decide) (by decide) (by decide) rfl ?_
  refine AW.iload_n (pc' := 121) dX11_shift_120 rfl ?_
  refine AW.aload_n (pc' := 122) dX11_shift_121 rfl ?_
  refine AW.getR (pc' := 125) dX11_shift_122 ly_0 fX11_81 rfl ?_
  refine AW.getR (pc' := 128) dX11_shift_125 ly_46 fX11_128 rfl ?_
  refine AW.iload_n (pc' := 129) dX11_shift_128 rfl ?_
  refine AW.aaldL (t := 54) (pc' := 130) dX11_shift_129 ly_50 (by decide) (by decide) (by decide) rfl ?_
  refine AW.iload (pc' := 132) dX11_shift_130 rfl ?_
  refine AW.iload (pc' := 134) dX11_shift_132 rfl ?_
  refine AW.copyL (pc' := 137) dX11_shift_134 mlX11_330 ly_52 ly_54 (by first | assumption | omega | (constructor <;> omega) | (simp only [Int.toNat_natCast]; omega) | exact b2_in _) (by first | assumption | omega | (constructor <;> omega) | (simp only [Int.toNat_natCast]; omega) | exact b2_in _) (by first | assumption | omega | (constructor <;> omega) | (simp only [Int.toNat_natCast]; omega) | exact b2_in _) (by first | assumption | omega | (constructor <;> omega) | (simp only [Int.toNat_natCast]; omega) | exact b2_in _) (by first | assumption | omega | (constructor <;> omega) | (simp only [Int.toNat_natCast]; omega) | exact b2_in _) (by decide) (by decide) ?_
  refine AW.iload (pc' := 139) dX11_shift_137 rfl ?_
  refine AW.iret dX11_shift_139 ?_ ?_
  · rfl
  · rfl
set_option maxRecDepth 100000 in
set_option maxHeartbeats 4000000 in
theorem tl_X11_shift14 {K : KT}  {dep : Nat} {h : Hp} {b d e x6 x7 : Int} (q0 : 0 ≤ b ∧ 0 ≤ d ∧ 0 ≤ e) (q1 : b + e ≤ 60) (q2 : d + e ≤ 60) (hd : 1 ≤ dep) :  AW K (XM K (some (vI e)) (hcpy h 52 55 b.toNat d.toNat e.toNat)) RX11 cX11_shift 8 (some .int) dep 111 [some (vR 0), some (vI (1)), some (vI (b)), some (vI (4)), some (vI (d)), some (vI (e)), some (vI (x6)), some (vI (x7))] [] h := by
  refine AW.aload_n (pc' := 112) dX11_shift_111 rfl ?_
  refine AW.getR (pc' := 115) dX11_shift_112 ly_0 fX11_81 rfl ?_
  refine AW.getR (pc' := 118) dX11_shift_115 ly_46 fX11_128 rfl ?_
  refine AW.iload_n (pc' := 119) dX11_shift_118 rfl ?_
  refine AW.aaldL (t := 52) (pc' := 120) dX11_shift_119 ly_50 (by decide) (by decide) (by decide) rfl ?_
  refine AW.iload_n (pc' := 121) dX11_shift_120 rfl ?_
  refine AW.aload_n (pc' := 122) dX11_shift_121 rfl ?_
  refine AW.getR (pc' := 125) dX11_shift_122 ly_0 fX11_81 rfl ?_
  refine AW.getR (pc' := 128) dX11_shift_125 ly_46 fX11_128 rfl ?_
  refine AW.iload_n (pc' := 129) dX11_shift_128 rfl ?_
  refine AW.aaldL (t := 55) (pc' := 130) dX11_shift_129 ly_50 (by decide) (by decide) (by decide) rfl ?_
  refine AW.iload (pc' := 132) dX11_shift_130 rfl ?_
  refine AW.iload (pc' := 134) dX11_shift_132 rfl ?_
  refine AW.copyL (pc' := 137) dX11_shift_134 mlX11_330 ly_52 ly_55 (by first | assumption | omega | (constructor <;> omega) | (simp only [Int.toNat_natCast]; omega) | exact b2_in _) (by first | assumption | omega | (constructor <;> omega) | (simp only [Int.toNat_natCast]; omega) | exact b2_in _) (by first | assumption | omega | (constructor <;> omega) | (simp only [Int.toNat_natCast]; omega) | exact b2_in _) (by first | assumption | omega | (constructor <;> omega) | (simp only [Int.toNat_natCast]; omega) | exact b2_in _) (by first | assumption | omega | (constructor <;> omega) | (simp only [Int.toNat_natCast]; omega) | exact b2_in _) (by decide) (by decide) ?_
  refine AW.iload (pc' := 139) dX11_shift_137 rfl ?_
  refine AW.iret dX11_shift_139 ?_ ?_
  · rfl
  · rfl
set_option maxRecDepth 100000 in
set_option maxHeartbeats 4000000 in
theorem tl_X11_shift15 {K : KT}  {dep : Nat} {h : Hp} {b d e x6 x7 : Int} (q0 : 0 ≤ b ∧ 0 ≤ d ∧ 0 ≤ e) (q1 : b + e ≤ 60) (q2 : d + e ≤ 60) (hd : 1 ≤ dep) :  AW K (XM K (some (vI e)) (hcpy h 52 56 b.toNat d.toNat e.toNat)) RX11 cX11_shift 8 (some .int) dep 111 [some (vR 0), some (vI (1)), some (vI (b)), some (vI (5)), some (vI (d)), some (vI (e)), some (vI (x6)), some (vI (x7))] [] h := by
  refine AW.aload_n (pc' := 112) dX11_shift_111 rfl ?_
  refine AW.getR (pc' := 115) dX11_shift_112 ly_0 fX11_81 rfl ?_
  refine AW.getR (pc' := 118) dX11_shift_115 ly_46 fX11_128 rfl ?_
  refine AW.iload_n (pc' := 119) dX11_shift_118 rfl ?_
  refine AW.aaldL (t := 52) (pc' := 120) dX11_shift_119 ly_50 (by decide) (by decide) (by decide) rfl ?_
  refine AW.iload_n (pc' := 121) dX11_shift_120 rfl ?_
  refine AW.aload_n (pc' := 122) dX11_shift_121 rfl ?_
  refine AW.getR (pc' := 125) dX11_shift_122 ly_0 fX11_81 rfl ?_
  refine AW.getR (pc' := 128) dX11_shift_125 ly_46 fX11_128 rfl ?_
  refine AW.iload_n (pc' := 129) dX11_shift_128 rfl ?_
  refine AW.aaldL (t := 56) (pc' := 130) dX11_shift_129 ly_50 (by decide) (by decide) (by decide) rfl ?_
  refine AW.iload (pc' := 132) dX11_shift_130 rfl ?_
  refine AW.iload (pc' := 134) dX11_shift_132 rfl ?_
  refine AW.copyL (pc' := 137) dX11_shift_134 mlX11_330 ly_52 ly_56 (by first | assumption | omega | (constructor <;> omega) | (simp only [Int.toNat_natCast]; omega) | exact b2_in _) (by first | assumption | omega | (constructor <;> omega) | (simp only [Int.toNat_natCast]; omega) | exact b2_in _) (by first | assumption | omega | (constructor <;> omega) | (simp only [Int.toNat_natCast]; omega) | exact b2_in _) (by first | assumption | omega | (constructor <;> omega) | (simp only [Int.toNat_natCast]; omega) | exact b2_in _) (by first | assumption | omega | (constructor <;> omega) | (simp only [Int.toNat_natCast]; omega) | exact b2_in _) (by decide) (by decide) ?_
  refine AW.iload (pc' := 139) dX11_shift_137 rfl ?_
  refine AW.iret dX11_shift_139 ?_ ?_
  · rfl
  · rfl
set_option maxRecDepth 100000 in
set_option maxHeartbeats 4000000 in
theorem tl_X11_shift20 {K : KT}  {dep : Nat} {h : Hp} {b d e x6 x7 : Int} (q0 : 0 ≤ b ∧ 0 ≤ d ∧ 0 ≤ e) (q1 : b + e ≤ 60) (q2 : d + e ≤ 60) (hd : 1 ≤ dep) :  AW K (XM K (some (vI e)) (hcpy h 53 51 b.toNat d.toNat e.toNat)) RX11 cX11_shift 8 (some .int) dep 111 [some (vR 0), some (vI (2)), some (vI (b)), some (vI (0)), some (vI (d)), some (vI (e)), some (vI (x6)), some (vI (x7))] [] h := by
  refine AW.aload_n (pc' := 112) dX11_shift_111 rfl ?_
  refine AW.getR (pc' := 115) dX11_shift_112 ly_0 fX11_81 rfl ?_
  refine AW.getR (pc' := 118) dX11_shift_115 ly_46 fX11_128 rfl ?_
  refine AW.iload_n (pc' := 119) dX11_shift_118 rfl ?_
  refine AW.aaldL (t := 53) (pc' := 120) dX11_shift_119 ly_50 (by decide) (by decide) (by decide) rfl ?_
  refine AW.iload_n (pc' := 121) dX11_shift_120 rfl ?_
  refine AW.aload_n (pc' := 122) dX11_shift_121 rfl ?_
  refine AW.getR (pc' := 125) dX11_shift_122 ly_0 fX11_81 rfl ?_
  refine AW.getR (pc' := 128) dX11_shift_125 ly_46 fX11_128 rfl ?_
  refine AW.iload_n (pc' := 129) dX11_shift_128 rfl ?_
  refine AW.aaldL (t := 51) (pc' := 130) dX11_shift_129 ly_50 (by decide) (by decide) (by decide) rfl ?_
  refine AW.iload (pc' := 132) dX11_shift_130 rfl ?_
  refine AW.iload (pc' := 134) dX11_shift_132 rfl ?_
  refine AW.copyL (pc' := 137) dX11_shift_134 mlX11_330 ly_53 ly_51 (by first | assumption | omega | (constructor <;> omega) | (simp only [Int.toNat_natCast]; omega) | exact b2_in _) (by first | assumption | omega | (constructor <;> omega) | (simp only [Int.toNat_natCast]; omega) | exact b2_in _) (by first | assumption | omega | (constructor <;> omega) | (simp only [Int.toNat_natCast]; omega) | exact b2_in _) (by first | assumption | omega | (constructor <;> omega) | (simp only [Int.toNat_natCast]; omega) | exact b2_in _) (by first | assumption | omega | (constructor <;> omega) | (simp only [Int.toNat_natCast]; omega) | exact b2_in _) (by decide) (by decide) ?_
  refine AW.iload (pc' := 139) dX11_shift_137 rfl ?_
  refine AW.iret dX11_shift_139 ?_ ?_
  · rfl
  · rfl
set_option maxRecDepth 100000 in
set_option maxHeartbeats 4000000 in
theorem tl_X11_shift21 {K : KT}  {dep : Nat} {h : Hp} {b d e x6 x7 : Int} (q0 : 0 ≤ b ∧ 0 ≤ d ∧ 0 ≤ e) (q1 : b + e ≤ 60) (q2 : d + e ≤ 60) (hd : 1 ≤ dep) :  AW K (XM K (some (vI e)) (hcpy h 53 52 b.toNat d.toNat e.toNat)) RX11 cX11_shift 8 (some .int) dep 111 [some (vR 0), some (vI (2)), some (vI (b)), some (vI (1)), some (vI (d)), some (vI (e)), some (vI (x6)), some (vI (x7))] [] h := by
  refine AW.aload_n (pc' := 112) dX11_shift_111 rfl ?_
  refine AW.getR (pc' := 115) dX11_shift_112 ly_0 fX11_81 rfl ?_
  refine AW.getR (pc' := 118) dX11_shift_115 ly_46 fX11_128 rfl ?_
  refine AW.iload_n (pc' := 119) dX11_shift_118 rfl ?_
  refine AW.aaldL (t := 53) (pc' := 120) dX11_shift_119 ly_50 (by decide) (by decide) (by decide) rfl ?_
  refine AW.iload_n (pc' := 121) dX11_shift_120 rfl ?_
  refine AW.aload_n (pc' := 122) dX11_shift_121 rfl ?_
  refine AW.getR (pc' := 125) dX11_shift_122 ly_0 fX11_81 rfl ?_
  refine AW.getR (pc' := 128) dX11_shift_125 ly_46 fX11_128 rfl ?_
  refine AW.iload_n (pc' := 129) dX11_shift_128 rfl ?_
  refine AW.aaldL (t := 52) (pc' := 130) dX11_shift_129 ly_50 (by decide) (by decide) (by decide) rfl ?_
  refine AW.iload (pc' := 132) dX11_shift_130 rfl ?_
  refine AW.iload (pc' := 134) dX11_shift_132 rfl ?_
  refine AW.copyL (pc' := 137) dX11_shift_134 mlX11_330 ly_53 ly_52 (by first | assumption | omega | (constructor <;> omega) | (simp only [Int.toNat_natCast]; omega) | exact b2_in _) (by first | assumption | omega | (constructor <;> omega) | (simp only [Int.toNat_natCast]; omega) | exact b2_in _) (by first | assumption | omega | (constructor <;> omega) | (simp only [Int.toNat_natCast]; omega) | exact b2_in _) (by first | assumption | omega | (constructor <;> omega) | (simp only [Int.toNat_natCast]; omega) | exact b2_in _) (by first | assumption | omega | (constructor <;> omega) | (simp only [Int.toNat_natCast]; omega) | exact b2_in _) (by decide) (by decide) ?_
  refine AW.iload (pc' := 139) dX11_shift_137 rfl ?_
  refine AW.iret dX11_shift_139 ?_ ?_
  · rfl
  · rfl
set_option maxRecDepth 100000 in
set_option maxHeartbeats 4000000 in
theorem tl_X11_shift22 {K : KT}  {dep : Nat} {h : Hp} {b d e x6 x7 : Int} (q0 : 0 ≤ b ∧ 0 ≤ d ∧ 0 ≤ e) (q1 : b + e ≤ 60) (q2 : d + e ≤ 60) (hd : 1 ≤ dep) :  AW K (XM K (some (vI e)) (hcpy h 53 53 b.toNat d.toNat e.toNat)) RX11 cX11_shift 8 (some .int) dep 111 [some (vR 0), some (vI (2)), some (vI (b)), some (vI (2)), some (vI (d)), some (vI (e)), some (vI (x6)), some (vI (x7))] [] h := by
  refine AW.aload_n (pc' := 112) dX11_shift_111 rfl ?_
  refine AW.getR (pc' := 115) dX11_shift_112 ly_0 fX11_81 rfl ?_
  refine AW.getR (pc' := 118) dX11_shift_115 ly_46 fX11_128 rfl ?_
  refine AW.iload_n (pc' := 119) dX11_shift_118 rfl ?_
  refine AW.aaldL (t := 53) (pc' := 120) dX11_shift_119 ly_50 (by decide) (by decide) (by decide) rfl ?_
  refine AW.iload_n (pc' := 121) dX11_shift_120 rfl ?_
  refine AW.aload_n (pc' := 122) dX11_shift_121 rfl ?_
  refine AW.getR (pc' := 125) dX11_shift_122 ly_0 fX11_81 rfl ?_
  refine AW.getR (pc' := 128) dX11_shift_125 ly_46 fX11_128 rfl ?_
  refine AW.iload_n (pc' := 129) dX11_shift_128 rfl ?_
  refine AW.aaldL (t := 53) (pc' := 130) dX11_shift_129 ly_50 (by decide) (by decide) (by decide) rfl ?_
  refine AW.iload (pc' := 132) dX11_shift_130 rfl ?_
  refine AW.iload (pc' := 134) dX11_shift_132 rfl ?_
  refine AW.copyL (pc' := 137) dX11_shift_134 mlX11_330 ly_53 ly_53 (by first | assumption | omega | (constructor <;> omega) | (simp only [Int.toNat_natCast]; omega) | exact b2_in _) (by first | assumption | omega | (constructor <;> omega) | (simp only [Int.toNat_natCast]; omega) | exact b2_in _) (by first | assumption | omega | (constructor <;> omega) | (simp only [Int.toNat_natCast]; omega) | exact b2_in _) (by first | assumption | omega | (constructor <;> omega) | (simp only [Int.toNat_natCast]; omega) | exact b2_in _) (by first | assumption | omega | (constructor <;> omega) | (simp only [Int.toNat_natCast]; omega) | exact b2_in _) (by decide) (by decide) ?_
  refine AW.iload (pc' := 139) dX11_shift_137 rfl ?_
  refine AW.iret dX11_shift_139 ?_ ?_
  · rfl
  · rfl
set_option maxRecDepth 100000 in
set_option maxHeartbeats 4000000 in
theorem tl_X11_shift23 {K : KT}  {dep : Nat} {h : Hp} {b d e x6 x7 : Int} (q0 : 0 ≤ b ∧ 0 ≤ d ∧ 0 ≤ e) (q1 : b + e ≤ 60) (q2 : d + e ≤ 60) (hd : 1 ≤ dep) :  AW K (XM K (some (vI e)) (hcpy h 53 54 b.toNat d.toNat e.toNat)) RX11 cX11_shift 8 (some .int) dep 111 [some (vR 0), some (vI (2)), some (vI (b)), some (vI (3)), some (vI (d)), some (vI (e)), some (vI (x6)), some (vI (x7))] [] h := by
  refine AW.aload_n (pc' := 112) dX11_shift_111 rfl ?_
  refine AW.getR (pc' := 115) dX11_shift_112 ly_0 fX11_81 rfl ?_
  refine AW.getR (pc' := 118) dX11_shift_115 ly_46 fX11_128 rfl ?_
  refine AW.iload_n (pc' := 119) dX11_shift_118 rfl ?_
  refine AW.aaldL (t := 53) (pc' := 120) dX11_shift_119 ly_50 (by decide) (by decide) (by decide) rfl ?_
  refine AW.iload_n (pc' := 121) dX11_shift_120 rfl ?_
  refine AW.aload_n (pc' := 122) dX11_shift_121 rfl ?_
  refine AW.getR (pc' := 125) dX11_shift_122 ly_0 fX11_81 rfl ?_
  refine AW.getR (pc' := 128) dX11_shift_125 ly_46 fX11_128 rfl ?_
  refine AW.iload_n (pc' := 129) dX11_shift_128 rfl ?_
  refine AW.aaldL (t := 54) (pc' := 130) dX11_shift_129 ly_50 (by decide) (by decide) (by decide) rfl ?_
  refine AW.iload (pc' := 132) dX11_shift_130 rfl ?_
  refine AW.iload (pc' := 134) dX11_shift_132 rfl ?_
  refine AW.copyL (pc' := 137) dX11_shift_134 mlX11_330 ly_53 ly_54 (by first | assumption | omega | (constructor <;> omega) | (simp only [Int.toNat_natCast]; omega) | exact b2_in _) (by first | assumption | omega | (constructor <;> omega) | (simp only [Int.toNat_natCast]; omega) | exact b2_in _) (by first | assumption | omega | (constructor <;> omega) | (simp only [Int.toNat_natCast]; omega) | exact b2_in _) (by first | assumption | omega | (constructor <;> omega) | (simp only [Int.toNat_natCast]; omega) | exact b2_in _) (by first | assumption | omega | (constructor <;> omega) | (simp only [Int.toNat_natCast]; omega) | exact b2_in _) (by decide) (by decide) ?_
  refine AW.iload (pc' := 139) dX11_shift_137 rfl ?_
  refine AW.iret dX11_shift_139 ?_ ?_
  · rfl
  · rfl
set_option maxRecDepth 100000 in
set_option maxHeartbeats 4000000 in
theorem tl_X11_shift24 {K : KT}  {dep : Nat} {h : Hp} {b d e x6 x7 : Int} (q0 : 0 ≤ b ∧ 0 ≤ d ∧ 0 ≤ e) (q1 : b + e ≤ 60) (q2 : d + e ≤ 60) (hd : 1 ≤ dep) :  AW K (XM K (some (vI e)) (hcpy h 53 55 b.toNat d.toNat e.toNat)) RX11 cX11_shift 8 (some .int) dep 111 [some (vR 0), some (vI (2)), some (vI (b)), some (vI (4)), some (vI (d)), some (vI (e)), some (vI (x6)), some (vI (x7))] [] h := by
  refine AW.aload_n (pc' := 112) dX11_shift_111 rfl ?_
  refine AW.getR (pc' := 115) dX11_shift_112 ly_0 fX11_81 rfl ?_
  refine AW.getR (pc' := 118) dX11_shift_115 ly_46 fX11_128 rfl ?_
  refine AW.iload_n (pc' := 119) dX11_shift_118 rfl ?_
  refine AW.aaldL (t := 53) (pc' := 120) dX11_shift_119 ly_50 (by decide) (by decide) (by decide) rfl ?_
  refine AW.iload_n (pc' := 121) dX11_shift_120 rfl ?_
  refine AW.aload_n (pc' := 122) dX11_shift_121 rfl ?_
  refine AW.getR (pc' := 125) dX11_shift_122 ly_0 fX11_81 rfl ?_
  refine AW.getR (pc' := 128) dX11_shift_125 ly_46 fX11_128 rfl ?_
  refine AW.iload_n (pc' := 129) dX11_shift_128 rfl ?_
  refine AW.aaldL (t := 55) (pc' := 130) dX11_shift_129 ly_50 (by decide) (by decide) (by decide) rfl ?_
  refine AW.iload (pc' := 132) dX11_shift_130 rfl ?_
  refine AW.iload (pc' := 134) dX11_shift_132 rfl ?_
  refine AW.copyL (pc' := 137) dX11_shift_134 mlX11_330 ly_53 ly_55 (by first | assumption | omega | (constructor <;> omega) | (simp only [Int.toNat_natCast]; omega) | exact b2_in _) (by first | assumption | omega | (constructor <;> omega) | (simp only [Int.toNat_natCast]; omega) | exact b2_in _) (by first | assumption | omega | (constructor <;> omega) | (simp only [Int.toNat_natCast]; omega) | exact b2_in _) (by first | assumption | omega | (constructor <;> omega) | (simp only [Int.toNat_natCast]; omega) | exact b2_in _) (by first | assumption | omega | (constructor <;> omega) | (simp only [Int.toNat_natCast]; omega) | exact b2_in _) (by decide) (by decide) ?_
  refine AW.iload (pc' := 139) dX11_shift_137 rfl ?_
  refine AW.iret dX11_shift_139 ?_ ?_
  · rfl
  · rfl
set_option maxRecDepth 100000 in
set_option maxHeartbeats 4000000 in
theorem tl_X11_shift25 {K : KT}  {dep : Nat} {h : Hp} {b d e x6 x7 : Int} (q0 : 0 ≤ b ∧ 0 ≤ d ∧ 0 ≤ e) (q1 : b + e ≤ 60) (q2 : d + e ≤ 60) (hd : 1 ≤ dep) :  AW K (XM K (some (vI e)) (hcpy h 53 56 b.toNat d.toNat e.toNat)) RX11 cX11_shift 8 (some .int) dep 111 [some (vR 0), some (vI (2)), some (vI (b)), some (vI (5)), some (vI (d)), some (vI (e)), some (vI (x6)), some (vI (x7))] [] h := by
  refine AW.aload_n (pc' := 112) dX11_shift_111 rfl ?_
  refine AW.getR (pc' := 115) dX11_shift_112 ly_0 fX11_81 rfl ?_
  refine AW.getR (pc' := 118) dX11_shift_115 ly_46 fX11_128 rfl ?_
  refine AW.iload_n (pc' := 119) dX11_shift_118 rfl ?_
  refine AW.aaldL (t := 53) (pc' := 120) dX11_shift_119 ly_50 (by decide) (by decide) (by decide) rfl ?_
  refine AW.iload_n (pc' := 121) dX11_shift_120 rfl ?_
  refine AW.aload_n (pc' := 122) dX11_shift_121 rfl ?_
  refine AW.getR (pc' := 125) dX11_shift_122 ly_0 fX11_81 rfl ?_
  refine AW.getR (pc' := 128) dX11_shift_125 ly_46 fX11_128 rfl ?_
  refine AW.iload_n (pc' := 129) dX11_shift_128 rfl ?_
  refine AW.aaldL (t := 56) (pc' := 130) dX11_shift_129 ly_50 (by decide) (by decide) (by decide) rfl ?_
  refine AW.iload (pc' := 132) dX11_shift_130 rfl ?_
  refine AW.iload (pc' := 134) dX11_shift_132 rfl ?_
  refine AW.copyL (pc' := 137) dX11_shift_134 mlX11_330 ly_53 ly_56 (by first | assumption | omega | (constructor <;> omega) | (simp only [Int.toNat_natCast]; omega) | exact b2_in _) (by first | assumption | omega | (constructor <;> omega) | (simp only [Int.toNat_natCast]; omega) | exact b2_in _) (by first | assumption | omega | (constructor <;> omega) | (simp only [Int.toNat_natCast]; omega) | exact b2_in _) (by first | assumption | omega | (constructor <;> omega) | (simp only [Int.toNat_natCast]; omega) | exact b2_in _) (by first | assumption | omega | (constructor <;> omega) | (simp only [Int.toNat_natCast]; omega) | exact b2_in _) (by decide) (by decide) ?_
  refine AW.iload (pc' := 139) dX11_shift_137 rfl ?_
  refine AW.iret dX11_shift_139 ?_ ?_
  · rfl
  · rfl
set_option maxRecDepth 100000 in
set_option maxHeartbeats 4000000 in
theorem tl_X11_shift30 {K : KT}  {dep : Nat} {h : Hp} {b d e x6 x7 : Int} (q0 : 0 ≤ b ∧ 0 ≤ d ∧ 0 ≤ e) (q1 : b + e ≤ 60) (q2 : d + e ≤ 60) (hd : 1 ≤ dep) :  AW K (XM K (some (vI e)) (hcpy h 54 51 b.toNat d.toNat e.toNat)) RX11 cX11_shift 8 (some .int) dep 111 [some (vR 0), some (vI (3)), some (vI (b)), some (vI (0)), some (vI (d)), some (vI (e)), some (vI (x6)), some (vI (x7))] [] h := by
  refine AW.aload_n (pc' := 112) dX11_shift_111 rfl ?_
  refine AW.getR (pc' := 115) dX11_shift_112 ly_0 fX11_81 rfl ?_
  refine AW.getR (pc' := 118) dX11_shift_115 ly_46 fX11_128 rfl ?_
  refine AW.iload_n (pc' := 119) dX11_shift_118 rfl ?_
  refine AW.aaldL (t := 54) (pc' := 120) dX11_shift_119 ly_50 (by decide) (by decide) (by decide) rfl ?_
  refine AW.iload_n (pc' := 121) dX11_shift_120 rfl ?_
  refine AW.aload_n (pc' := 122) dX11_shift_121 rfl ?_
  refine AW.getR (pc' := 125) dX11_shift_122 ly_0 fX11_81 rfl ?_
  refine AW.getR (pc' := 128) dX11_shift_125 ly_46 fX11_128 rfl ?_
  refine AW.iload_n (pc' := 129) dX11_shift_128 rfl ?_
  refine AW.aaldL (t := 51) (pc' := 130) dX11_shift_129 ly_50 (by decide) (by decide) (by decide) rfl ?_
  refine AW.iload (pc' := 132) dX11_shift_130 rfl ?_
  refine AW.iload (pc' := 134) dX11_shift_132 rfl ?_
  refine AW.copyL (pc' := 137) dX11_shift_134 mlX11_330 ly_54 ly_51 (by first | assumption | omega | (constructor <;> omega) | (simp only [Int.toNat_natCast]; omega) | exact b2_in _) (by first | assumption | omega | (constructor <;> omega) | (simp only [Int.toNat_natCast]; omega) | exact b2_in _) (by first | assumption | omega | (constructor <;> omega) | (simp only [Int.toNat_natCast]; omega) | exact b2_in _) (by first | assumption | omega | (constructor <;> omega) | (simp only [Int.toNat_natCast]; omega) | exact b2_in _) (by first | assumption | omega | (constructor <;> omega) | (simp only [Int.toNat_natCast]; omega) | exact b2_in _) (by decide) (by decide) ?_
  refine AW.iload (pc' := 139) dX11_shift_137 rfl ?_
  refine AW.iret dX11_shift_139 ?_ ?_
  · rfl
  · rfl
set_option maxRecDepth 100000 in
set_option maxHeartbeats 4000000 in
theorem tl_X11_shift31 {K : KT}  {dep : Nat} {h : Hp} {b d e x6 x7 : Int} (q0 : 0 ≤ b ∧ 0 ≤ d ∧ 0 ≤ e) (q1 : b + e ≤ 60) (q2 : d + e ≤ 60) (hd : 1 ≤ dep) :  AW K (XM K (some (vI e)) (hcpy h 54 52 b.toNat d.toNat e.toNat)) RX11 cX11_shift 8 (some .int) dep 111 [some (vR 0), some (vI (3)), some (vI (b)), some (vI (1)), some (vI (d)), some (vI (e)), some (vI (x6)), some (vI (x7))] [] h := by
  refine AW.aload_n (pc' := 112) dX11_shift_111 rfl ?_
  refine AW.getR (pc' := 115) dX11_shift_112 ly_0 fX11_81 rfl ?_
  refine AW.getR (pc' := 118) dX11_shift_115 ly_46 fX11_128 rfl ?_
  refine AW.iload_n (pc' := 119) dX11_shift_118 rfl ?_
  refine AW.aaldL (t := 54) (pc' := 120) dX11_shift_119 ly_50 (by decide) (by decide) (by decide) rfl ?_
  refine AW.iload_n (pc' := 121) dX11_shift_120 rfl ?_
  refine AW.aload_n (pc' := 122) dX11_shift_121 rfl ?_
  refine AW.getR (pc' := 125) dX11_shift_122 ly_0 fX11_81 rfl ?_
  refine AW.getR (pc' := 128) dX11_shift_125 ly_46 fX11_128 rfl ?_
  refine AW.iload_n (pc' := 129) dX11_shift_128 rfl ?_
  refine AW.aaldL (t := 52) (pc' := 130) dX11_shift_129 ly_50 (by decide) (by decide) (by decide) rfl ?_
  refine AW.iload (pc' := 132) dX11_shift_130 rfl ?_
  refine AW.iload (pc' := 134) dX11_shift_132 rfl ?_
  refine AW.copyL (pc' := 137) dX11_shift_134 mlX11_330 ly_54 ly_52 (by first | assumption | omega | (constructor <;> omega) | (simp only [Int.toNat_natCast]; omega) | exact b2_in _) (by first | assumption | omega | (constructor <;> omega) | (simp only [Int.toNat_natCast]; omega) | exact b2_in _) (by first | assumption | omega | (constructor <;> omega) | (simp only [Int.toNat_natCast]; omega) | exact b2_in _) (by first | assumption | omega | (constructor <;> omega) | (simp only [Int.toNat_natCast]; omega) | exact b2_in _) (by first | assumption | omega | (constructor <;> omega) | (simp only [Int.toNat_natCast]; omega) | exact b2_in _) (by decide) (by decide) ?_
  refine AW.iload (pc' := 139) dX11_shift_137 rfl ?_
  refine AW.iret dX11_shift_139 ?_ ?_
  · rfl
  · rfl
set_option maxRecDepth 100000 in
set_option maxHeartbeats 4000000 in
theorem tl_X11_shift32 {K : KT}  {dep : Nat} {h : Hp} {b d e x6 x7 : Int} (q0 : 0 ≤ b ∧ 0 ≤ d ∧ 0 ≤ e) (q1 : b + e ≤ 60) (q2 : d + e ≤ 60) (hd : 1 ≤ dep) :  AW K (XM K (some (vI e)) (hcpy h 54 53 b.toNat d.toNat e.toNat)) RX11 cX11_shift 8 (some .int) dep 111 [some (vR 0), some (vI (3)), some (vI (b)), some (vI (2)), some (vI (d)), some (vI (e)), some (vI (x6)), some (vI (x7))] [] h := by
  refine AW.aload_n (pc' := 112) dX11_shift_111 rfl ?_
  refine AW.getR (pc' := 115) dX11_shift_112 ly_0 fX11_81 rfl ?_
  refine AW.getR (pc' := 118) dX11_shift_115 ly_46 fX11_128 rfl ?_
  refine AW.iload_n (pc' := 119) dX11_shift_118 rfl ?_
  refine AW.aaldL (t := 54) (pc' := 120) dX11_shift_119 ly_50 (by decide) (by decide) (by decide) rfl ?_
  refine AW.iload_n (pc' := 121) dX11_shift_120 rfl ?_
  refine AW.aload_n (pc' := 122) dX11_shift_121 rfl ?_
  refine AW.getR (pc' := 125) dX11_shift_122 ly_0 fX11_81 rfl ?_
  refine AW.getR (pc' := 128) dX11_shift_125 ly_46 fX11_128 rfl ?_
  refine AW.iload_n (pc' := 129) dX11_shift_128 rfl ?_
  refine AW.aaldL (t := 53) (pc' := 130) dX11_shift_129 ly_50 (by decide) (by decide) (by decide) rfl ?_
  refine AW.iload (pc' := 132) dX11_shift_130 rfl ?_
  refine AW.iload (pc' := 134) dX11_shift_132 rfl ?_
  refine AW.copyL (pc' := 137) dX11_shift_134 mlX11_330 ly_54 ly_53 (by first | assumption | omega | (constructor <;> omega) | (simp only [Int.toNat_natCast]; omega) | exact b2_in _) (by first | assumption | omega | (constructor <;> omega) | (simp only [Int.toNat_natCast]; omega) | exact b2_in _) (by first | assumption | omega | (constructor <;> omega) | (simp only [Int.toNat_natCast]; omega) | exact b2_in _) (by first | assumption | omega | (constructor <;> omega) | (simp only [Int.toNat_natCast]; omega) | exact b2_in _) (by first | assumption | omega | (constructor <;> omega) | (simp only [Int.toNat_natCast]; omega) | exact b2_in _) (by decide) (by decide) ?_
  refine AW.iload (pc' := 139) dX11_shift_137 rfl ?_
  refine AW.iret dX11_shift_139 ?_ ?_
  · rfl
  · rfl
set_option maxRecDepth 100000 in
set_option maxHeartbeats 4000000 in
theorem tl_X11_shift33 {K : KT}  {dep : Nat} {h : Hp} {b d e x6 x7 : Int} (q0 : 0 ≤ b ∧ 0 ≤ d ∧ 0 ≤ e) (q1 : b + e ≤ 60) (q2 : d + e ≤ 60) (hd : 1 ≤ dep) :  AW K (XM K (some (vI e)) (hcpy h 54 54 b.toNat d.toNat e.toNat)) RX11 cX11_shift 8 (some .int) dep 111 [some (vR 0), some (vI (3)), some (vI (b)), some (vI (3)), some (vI (d)), some (vI (e)), some (vI (x6)), some (vI (x7))] [] h := by
  refine AW.aload_n (pc' := 112) dX11_shift_111 rfl ?_
  refine AW.getR (pc' := 115) dX11_shift_112 ly_0 fX11_81 rfl ?_
  refine AW.getR (pc' := 118) dX11_shift_115 ly_46 fX11_128 rfl ?_
  refine AW.iload_n (pc' := 119) dX11_shift_118 rfl ?_
  refine AW.aaldL (t := 54) (pc' := 120) dX11_shift_119 ly_50 (by decide) (by decide) (by decide) rfl ?_
  refine AW.iload_n (pc' := 121) dX11_shift_120 rfl ?_
  refine AW.aload_n (pc' := 122) dX11_shift_121 rfl ?_
  refine AW.getR (pc' := 125) dX11_shift_122 ly_0 fX11_81 rfl ?_
  refine AW.getR (pc' := 128) dX11_shift_125 ly_46 fX11_128 rfl ?_
  refine AW.iload_n (pc' := 129) dX11_shift_128 rfl ?_
  refine AW.aaldL (t := 54) (pc' := 130) dX11_shift_129 ly_50 (by decide) (by decide) (by decide) rfl ?_
  refine AW.iload (pc' := 132) dX11_shift_130 rfl ?_
  refine AW.iload (pc' := 134) dX11_shift_132 rfl ?_
  refine AW.copyL (pc' := 137) dX11_shift_134 mlX11_330 ly_54 ly_54 (by first | assumption | omega | (constructor <;> omega) | (simp only [Int.toNat_natCast]; omega) | exact b2_in _) (by first | assumption | omega | (constructor <;> omega) | (simp only [Int.toNat_natCast]; omega) | exact b2_in _) (by first | assumption | omega | (constructor <;> omega) | (simp only [Int.toNat_natCast]; omega) | exact b2_in _) (by first | assumption | omega | (constructor <;> omega) | (simp only [Int.toNat_natCast]; omega) | exact b2_in _) (by first | assumption | omega | (constructor <;> omega) | (simp only [Int.toNat_natCast]; omega) | exact b2_in _) (by decide) (by decide) ?_
  refine AW.iload (pc' := 139) dX11_shift_137 rfl ?_
  refine AW.iret dX11_shift_139 ?_ ?_
  · rfl
  · rfl
set_option maxRecDepth 100000 in
set_option maxHeartbeats 4000000 in
theorem tl_X11_shift34 {K : KT}  {dep : Nat} {h : Hp} {b d e x6 x7 : Int} (q0 : 0 ≤ b ∧ 0 ≤ d ∧ 0 ≤ e) (q1 : b + e ≤ 60) (q2 : d + e ≤ 60) (hd : 1 ≤ dep) :  AW K (XM K (some (vI e)) (hcpy h 54 55 b.toNat d.toNat e.toNat)) RX11 cX11_shift 8 (some .int) dep 111 [some (vR 0), some (vI (3)), some (vI (b)), some (vI (4)), some (vI (d)), some (vI (e)), some (vI (x6)), some (vI (x7))] [] h := by
  refine AW.aload_n (pc' := 112) dX11_shift_111 rfl ?_
  refine AW.getR (pc' := 115) dX11_shift_112 ly_0 fX11_81 rfl ?_
  refine AW.getR (pc' := 118) dX11_shift_115 ly_46 fX11_128 rfl ?_
  refine AW.iload_n (pc' := 119) dX11_shift_118 rfl ?_
  refine AW.aaldL (t := 54) (pc' := 120) dX11_shift_119 ly_50 (by decide) (by decide) (by decide) rfl ?_
  refine AW.iload_n (pc' := 121) dX11_shift_120 rfl ?_
  refine AW.aload_n (pc' := 122) dX11_shift_121 rfl ?_
  refine AW.getR (pc' := 125) dX11_shift_122 ly_0 fX11_81 rfl ?_
  refine AW.getR (pc' := 128) dX11_shift_125 ly_46 fX11_128 rfl ?_
  refine AW.iload_n (pc' := 129) dX11_shift_128 rfl ?_
  refine AW.aaldL (t := 55) (pc' := 130) dX11_shift_129 ly_50 (by decide) (by decide) (by decide) rfl ?_
  refine AW.iload (pc' := 132) dX11_shift_130 rfl ?_
  refine AW.iload (pc' := 134) dX11_shift_132 rfl ?_
  refine AW.copyL (pc' := 137) dX11_shift_134 mlX11_330 ly_54 ly_55 (by first | assumption | omega | (constructor <;> omega) | (simp only [Int.toNat_natCast]; omega) | exact b2_in _) (by first | assumption | omega | (constructor <;> omega) | (simp only [Int.toNat_natCast]; omega) | exact b2_in _) (by first | assumption | omega | (constructor <;> omega) | (simp only [Int.toNat_natCast]; omega) | exact b2_in _) (by first | assumption | omega | (constructor <;> omega) | (simp only [Int.toNat_natCast]; omega) | exact b2_in _) (by first | assumption | omega | (constructor <;> omega) | (simp only [Int.toNat_natCast]; omega) | exact b2_in _) (by decide) (by decide) ?_
  refine AW.iload (pc' := 139) dX11_shift_137 rfl ?_
  refine AW.iret dX11_shift_139 ?_ ?_
  · rfl
  · rfl
set_option maxRecDepth 100000 in
set_option maxHeartbeats 4000000 in
theorem tl_X11_shift35 {K : KT}  {dep : Nat} {h : Hp} {b d e x6 x7 : Int} (q0 : 0 ≤ b ∧ 0 ≤ d ∧ 0 ≤ e) (q1 : b + e ≤ 60) (q2 : d + e ≤ 60) (hd : 1 ≤ dep) :  AW K (XM K (some (vI e)) (hcpy h 54 56 b.toNat d.toNat e.toNat)) RX11 cX11_shift 8 (some .int) dep 111 [some (vR 0), some (vI (3)), some (vI (b)), some (vI (5)), some (vI (d)), some (vI (e)), some (vI (x6)), some (vI (x7))] [] h := by
  refine AW.aload_n (pc' := 112) dX11_shift_111 rfl ?_
  refine AW.getR (pc' := 115) dX11_shift_112 ly_0 fX11_81 rfl ?_
  refine AW.getR (pc' := 118) dX11_shift_115 ly_46 fX11_128 rfl ?_
  refine AW.iload_n (pc' := 119) dX11_shift_118 rfl ?_
  refine AW.aaldL (t := 54) (pc' := 120) dX11_shift_119 ly_50 (by decide) (by decide) (by decide) rfl ?_
  refine AW.iload_n (pc' := 121) dX11_shift_120 rfl ?_
  refine AW.aload_n (pc' := 122) dX11_shift_121 rfl ?_
  refine AW.getR (pc' := 125) dX11_shift_122 ly_0 fX11_81 rfl ?_
  refine AW.getR (pc' := 128) dX11_shift_125 ly_46 fX11_128 rfl ?_
  refine AW.iload_n (pc' := 129) dX11_shift_128 rfl ?_
  refine AW.aaldL (t := 56) (pc' := 130) dX11_shift_129 ly_50 (by decide) (by decide) (by decide) rfl ?_
  refine AW.iload (pc' := 132) dX11_shift_130 rfl ?_
  refine AW.iload (pc' := 134) dX11_shift_132 rfl ?_
  refine AW.copyL (pc' := 137) dX11_shift_134 mlX11_330 ly_54 ly_56 (by first | assumption | omega | (constructor <;> omega) | (simp only [Int.toNat_natCast]; omega) | exact b2_in _) (by first | assumption | omega | (constructor <;> omega) | (simp only [Int.toNat_natCast]; omega) | exact b2_in _) (by first | assumption | omega | (constructor <;> omega) | (simp only [Int.toNat_natCast]; omega) | exact b2_in _) (by first | assumption | omega | (constructor <;> omega) | (simp only [Int.toNat_natCast]; omega) | exact b2_in _) (by first | assumption | omega | (constructor <;> omega) | (simp only [Int.toNat_natCast]; omega) | exact b2_in _) (by decide) (by decide) ?_
  refine AW.iload (pc' := 139) dX11_shift_137 rfl ?_
  refine AW.iret dX11_shift_139 ?_ ?_
  · rfl
  · rfl
set_option maxRecDepth 100000 in
set_option maxHeartbeats 4000000 in
theorem tl_X11_shift40 {K : KT}  {dep : Nat} {h : Hp} {b d e x6 x7 : Int} (q0 : 0 ≤ b ∧ 0 ≤ d ∧ 0 ≤ e) (q1 : b + e ≤ 60) (q2 : d + e ≤ 60) (hd : 1 ≤ dep) :  AW K (XM K (some (vI e)) (hcpy h 55 51 b.toNat d.toNat e.toNat)) RX11 cX11_shift 8 (some .int) dep 111 [some (vR 0), some (vI (4)), some (vI (b)), some (vI (0)), some (vI (d)), some (vI (e)), some (vI (x6)), some (vI (x7))] [] h := by
  refine AW.aload_n (pc' := 112) dX11_shift_111 rfl ?_
  refine AW.getR (pc' := 115) dX11_shift_112 ly_0 fX11_81 rfl ?_
  refine AW.getR (pc' := 118) dX11_shift_115 ly_46 fX11_128 rfl ?_
  refine AW.iload_n (pc' := 119) dX11_shift_118 rfl ?_
  refine AW.aaldL (t := 55) (pc' := 120) dX11_shift_119 ly_50 (by decide) (by decide) (by decide) rfl ?_
  refine AW.iload_n (pc' := 121) dX11_shift_120 rfl ?_
  refine AW.aload_n (pc' := 122) dX11_shift_121 rfl ?_
  refine AW.getR (pc' := 125) dX11_shift_122 ly_0 fX11_81 rfl ?_
  refine AW.getR (pc' := 128) dX11_shift_125 ly_46 fX11_128 rfl ?_
  refine AW.iload_n (pc' := 129) dX11_shift_128 rfl ?_
  refine AW.aaldL (t := 51) (pc' := 130) dX11_shift_129 ly_50 (by decide) (by decide) (by decide) rfl ?_
  refine AW.iload (pc' := 132) dX11_shift_130 rfl ?_
  refine AW.iload (pc' := 134) dX11_shift_132 rfl ?_
  refine AW.copyL (pc' := 137) dX11_shift_134 mlX11_330 ly_55 ly_51 (by first | assumption | omega | (constructor <;> omega) | (simp only [Int.toNat_natCast]; omega) | exact b2_in _) (by first | assumption | omega | (constructor <;> omega) | (simp only [Int.toNat_natCast]; omega) | exact b2_in _) (by first | assumption | omega | (constructor <;> omega) | (simp only [Int.toNat_natCast]; omega) | exact b2_in _) (by first | assumption | omega | (constructor <;> omega) | (simp only [Int.toNat_natCast]; omega) | exact b2_in _) (by first | assumption | omega | (constructor <;> omega) | (simp only [Int.toNat_natCast]; omega) | exact b2_in _) (by decide) (by decide) ?_
  refine AW.iload (pc' := 139) dX11_shift_137 rfl ?_
  refine AW.iret dX11_shift_139 ?_ ?_
  · rfl
  · rfl
set_option maxRecDepth 100000 in
set_option maxHeartbeats 4000000 in
theorem tl_X11_shift41 {K : KT}  {dep : Nat} {h : Hp} {b d e x6 x7 : Int} (q0 : 0 ≤ b ∧ 0 ≤ d ∧ 0 ≤ e) (q1 : b + e ≤ 60) (q2 : d + e ≤ 60) (hd : 1 ≤ dep) :  AW K (XM K (some (vI e)) (hcpy h 55 52 b.toNat d.toNat e.toNat)) RX11 cX11_shift 8 (some .int) dep 111 [some (vR 0), some (vI (4)), some (vI (b)), some (vI (1)), some (vI (d)), some (vI (e)), some (vI (x6)), some (vI (x7))] [] h := by
  refine AW.aload_n (pc' := 112) dX11_shift_111 rfl ?_
  refine AW.getR (pc' := 115) dX11_shift_112 ly_0 fX11_81 rfl ?_
  refine AW.getR (pc' := 118) dX11_shift_115 ly_46 fX11_128 rfl ?_
  refine AW.iload_n (pc' := 119) dX11_shift_118 rfl ?_
  refine AW.aaldL (t := 55) (pc' := 120) dX11_shift_119 ly_50 (by decide) (by decide) (by decide) rfl ?_
  refine AW.iload_n (pc' := 121) dX11_shift_120 rfl ?_
  refine AW.aload_n (pc' := 122) dX11_shift_121 rfl ?_
  refine AW.getR (pc' := 125) dX11_shift_122 ly_0 fX11_81 rfl ?_
  refine AW.getR (pc' := 128) dX11_shift_125 ly_46 fX11_128 rfl ?_
  refine AW.iload_n (pc' := 129) dX11_shift_128 rfl ?_
  refine AW.aaldL (t := 52) (pc' := 130) dX11_shift_129 ly_50 (by decide) (by decide) (by decide) rfl ?_
  refine AW.iload (pc' := 132) dX11_shift_130 rfl ?_
  refine AW.iload (pc' := 134) dX11_shift_132 rfl ?_
  refine AW.copyL (pc' := 137) dX11_shift_134 mlX11_330 ly_55 ly_52 (by first | assumption | omega | (constructor <;> omega) | (simp only [Int.toNat_natCast]; omega) | exact b2_in _) (by first | assumption | omega | (constructor <;> omega) | (simp only [Int.toNat_natCast]; omega) | exact b2_in _) (by first | assumption | omega | (constructor <;> omega) | (simp only [Int.toNat_natCast]; omega) | exact b2_in _) (by first | assumption | omega | (constructor <;> omega) | (simp only [Int.toNat_natCast]; omega) | exact b2_in _) (by first | assumption | omega | (constructor <;> omega) | (simp only [Int.toNat_natCast]; omega) | exact b2_in _) (by decide) (by decide) ?_
  refine AW.iload (pc' := 139) dX11_shift_137 rfl ?_
  refine AW.iret dX11_shift_139 ?_ ?_
  · rfl
  · rfl
set_option maxRecDepth 100000 in
set_option maxHeartbeats 4000000 in
theorem tl_X11_shift42 {K : KT}  {dep : Nat} {h : Hp} {b d e x6 x7 : Int} (q0 : 0 ≤ b ∧ 0 ≤ d ∧ 0 ≤ e) (q1 : b + e ≤ 60) (q2 : d + e ≤ 60) (hd : 1 ≤ dep) :  AW K (XM K (some (vI e)) (hcpy h 55 53 b.toNat d.toNat e.toNat)) RX11 cX11_shift 8 (some .int) dep 111 [some (vR 0), some (vI (4)), some (vI (b)), some (vI (2)), some (vI (d)), some (vI (e)), some (vI (x6)), some (vI (x7))] [] h := by
  refine AW.aload_n (pc' := 112) dX11_shift_111 rfl ?_
  refine AW.getR (pc' := 115) dX11_shift_112 ly_0 fX11_81 rfl ?_
  refine AW.getR (pc' := 118) dX11_shift_115 ly_46 fX11_128 rfl ?_
  refine AW.iload_n (pc' := 119) dX11_shift_118 rfl ?_
  refine AW.aaldL (t := 55) (pc' := 120) dX11_shift_119 ly_50 (by decide) (by decide) (by decide) rfl ?_
  refine AW.iload_n (pc' := 121) dX11_shift_120 rfl ?_
  refine AW.aload_n (pc' := 122) dX11_shift_121 rfl ?_
  refine AW.getR (pc' := 125) dX11_shift_122 ly_0 fX11_81 rfl ?_
  refine AW.getR (pc' := 128) dX11_shift_125 ly_46 fX11_128 rfl ?_
  refine AW.iload_n (pc' := 129) dX11_shift_128 rfl ?_
  refine AW.aaldL (t := 53) (pc' := 130) dX11_shift_129 ly_50 (by decide) (by decide) (by decide) rfl ?_
  refine AW.iload (pc' := 132) dX11_shift_130 rfl ?_
  refine AW.iload (pc' := 134) dX11_shift_132 rfl ?_
  refine AW.copyL (pc' := 137) dX11_shift_134 mlX11_330 ly_55 ly_53 (by first | assumption | omega | (constructor <;> omega) | (simp only [Int.toNat_natCast]; omega) | exact b2_in _) (by first | assumption | omega | (constructor <;> omega) | (simp only [Int.toNat_natCast]; omega) | exact b2_in _) (by first | assumption | omega | (constructor <;> omega) | (simp only [Int.toNat_natCast]; omega) | exact b2_in _) (by first | assumption | omega | (constructor <;> omega) | (simp only [Int.toNat_natCast]; omega) | exact b2_in _) (by first | assumption | omega | (constructor <;> omega) | (simp only [Int.toNat_natCast]; omega) | exact b2_in _) (by decide) (by decide) ?_
  refine AW.iload (pc' := 139) dX11_shift_137 rfl ?_
  refine AW.iret dX11_shift_139 ?_ ?_
  · rfl
  · rfl
set_option maxRecDepth 100000 in
set_option maxHeartbeats 4000000 in
theorem tl_X11_shift43 {K : KT}  {dep : Nat} {h : Hp} {b d e x6 x7 : Int} (q0 : 0 ≤ b ∧ 0 ≤ d ∧ 0 ≤ e) (q1 : b + e ≤ 60) (q2 : d + e ≤ 60) (hd : 1 ≤ dep) :  AW K (XM K (some (vI e)) (hcpy h 55 54 b.toNat d.toNat e.toNat)) RX11 cX11_shift 8 (some .int) dep 111 [some (vR 0), some (vI (4)), some (vI (b)), some (vI (3)), some (vI (d)), some (vI (e)), some (vI (x6)), some (vI (x7))] [] h := by
  refine AW.aload_n (pc' := 112) dX11_shift_111 rfl ?_
  refine AW.getR (pc' := 115) dX11_shift_112 ly_0 fX11_81 rfl ?_
  refine AW.getR (pc' := 118) dX11_shift_115 ly_46 fX11_128 rfl ?_
  refine AW.iload_n (pc' := 119) dX11_shift_118 rfl ?_
  refine AW.aaldL (t := 55) (pc' := 120) dX11_shift_119 ly_50 (by decide) (by decide) (by decide) rfl ?_
  refine AW.iload_n (pc' := 121) dX11_shift_120 rfl ?_
  refine AW.aload_n (pc' := 122) dX11_shift_121 rfl ?_
  refine AW.getR (pc' := 125) dX11_shift_122 ly_0 fX11_81 rfl ?_
  refine AW.getR (pc' := 128) dX11_shift_125 ly_46 fX11_128 rfl ?_
  refine AW.iload_n (pc' := 129) dX11_shift_128 rfl ?_
  refine AW.aaldL (t := 54) (pc' := 130) dX11_shift_129 ly_50 (by decide) (by decide) (by decide) rfl ?_
  refine AW.iload (pc' := 132) dX11_shift_130 rfl ?_
  refine AW.iload (pc' := 134) dX11_shift_132 rfl ?_
  refine AW.copyL (pc' := 137) dX11_shift_134 mlX11_330 ly_55 ly_54 (by first | assumption | omega | (constructor <;> omega) | (simp only [Int.toNat_natCast]; omega) | exact b2_in _) (by first | assumption | omega | (constructor <;> omega) | (simp only [Int.toNat_natCast]; omega) | exact b2_in _) (by first | assumption | omega | (constructor <;> omega) | (simp only [Int.toNat_natCast]; omega) | exact b2_in _) (by first | assumption | omega | (constructor <;> omega) | (simp only [Int.toNat_natCast]; omega) | exact b2_in _) (by first | assumption | omega | (constructor <;> omega) | (simp only [Int.toNat_natCast]; omega) | exact b2_in _) (by decide) (by decide) ?_
  refine AW.iload (pc' := 139) dX11_shift_137 rfl ?_
  refine AW.iret dX11_shift_139 ?_ ?_
  · rfl
  · rfl
set_option maxRecDepth 100000 in
set_option maxHeartbeats 4000000 in
theorem tl_X11_shift44 {K : KT}  {dep : Nat} {h : Hp} {b d e x6 x7 : Int} (q0 : 0 ≤ b ∧ 0 ≤ d ∧ 0 ≤ e) (q1 : b + e ≤ 60) (q2 : d + e ≤ 60) (hd : 1 ≤ dep) :  AW K (XM K (some (vI e)) (hcpy h 55 55 b.toNat d.toNat e.toNat)) RX11 cX11_shift 8 (some .int) dep 111 [some (vR 0), some (vI (4)), some (vI (b)), some (vI (4)), some (vI (d)), some (vI (e)), some (vI (x6)), some (vI (x7))] [] h := by
  refine AW.aload_n (pc' := 112) dX11_shift_111 rfl ?_
  refine AW.getR (pc' := 115) dX11_shift_112 ly_0 fX11_81 rfl ?_
  refine AW.getR (pc' := 118) dX11_shift_115 ly_46 fX11_128 rfl ?_
  refine AW.iload_n (pc' := 119) dX11_shift_118 rfl ?_
  refine AW.aaldL (t := 55) (pc' := 120) dX11_shift_119 ly_50 (by decide) (by decide) (by decide) rfl ?_
  refine AW.iload_n (pc' := 121) dX11_shift_120 rfl ?_
  refine AW.aload_n (pc' := 122) dX11_shift_121 rfl ?_
  refine AW.getR (pc' := 125) dX11_shift_122 ly_0 fX11_81 rfl ?_
  refine AW.getR (pc' := 128) dX11_shift_125 ly_46 fX11_128 rfl ?_
  refine AW.iload_n (pc' := 129) dX11_shift_128 rfl ?_
  refine AW.aaldL (t := 55) (pc' := 130) dX11_shift_129 ly_50 (by decide) (by decide) (by decide) rfl ?_
  refine AW.iload (pc' := 132) dX11_shift_130 rfl ?_
  refine AW.iload (pc' := 134) dX11_shift_132 rfl ?_
  refine AW.copyL (pc' := 137) dX11_shift_134 mlX11_330 ly_55 ly_55 (by first | assumption | omega | (constructor <;> omega) | (simp only [Int.toNat_natCast]; omega) | exact b2_in _) (by first | assumption | omega | (constructor <;> omega) | (simp only [Int.toNat_natCast]; omega) | exact b2_in _) (by first | assumption | omega | (constructor <;> omega) | (simp only [Int.toNat_natCast]; omega) | exact b2_in _) (by first | assumption | omega | (constructor <;> omega) | (simp only [Int.toNat_natCast]; omega) | exact b2_in _) (by first | assumption | omega | (constructor <;> omega) | (simp only [Int.toNat_natCast]; omega) | exact b2_in _) (by decide) (by decide) ?_
  refine AW.iload (pc' := 139) dX11_shift_137 rfl ?_
  refine AW.iret dX11_shift_139 ?_ ?_
  · rfl
  · rfl
set_option maxRecDepth 100000 in
set_option maxHeartbeats 4000000 in
theorem tl_X11_shift45 {K : KT}  {dep : Nat} {h : Hp} {b d e x6 x7 : Int} (q0 : 0 ≤ b ∧ 0 ≤ d ∧ 0 ≤ e) (q1 : b + e ≤ 60) (q2 : d + e ≤ 60) (hd : 1 ≤ dep) :  AW K (XM K (some (vI e)) (hcpy h 55 56 b.toNat d.toNat e.toNat)) RX11 cX11_shift 8 (some .int) dep 111 [some (vR 0), some (vI (4)), some (vI (b)), some (vI (5)), some (vI (d)), some (vI (e)), some (vI (x6)), some (vI (x7))] [] h := by
  refine AW.aload_n (pc' := 112) dX11_shift_111 rfl ?_
  refine AW.getR (pc' := 115) dX11_shift_112 ly_0 fX11_81 rfl ?_
  refine AW.getR (pc' := 118) dX11_shift_115 ly_46 fX11_128 rfl ?_
  refine AW.iload_n (pc' := 119) dX11_shift_118 rfl ?_
  refine AW.aaldL (t := 55) (pc' := 120) dX11_shift_119 ly_50 (by decide) (by decide) (by decide) rfl ?_
  refine AW.iload_n (pc' := 121) dX11_shift_120 rfl ?_
  refine AW.aload_n (pc' := 122) dX11_shift_121 rfl ?_
  refine AW.getR (pc' := 125) dX11_shift_122 ly_0 fX11_81 rfl ?_
  refine AW.getR (pc' := 128) dX11_shift_125 ly_46 fX11_128 rfl ?_
  refine AW.iload_n (pc' := 129) dX11_shift_128 rfl ?_
  refine AW.aaldL (t := 56) (pc' := 130) dX11_shift_129 ly_50 (by decide) (by decide) (by decide) rfl ?_
  refine AW.iload (pc' := 132) dX11_shift_130 rfl ?_
  refine AW.iload (pc' := 134) dX11_shift_132 rfl ?_
  refine AW.copyL (pc' := 137) dX11_shift_134 mlX11_330 ly_55 ly_56 (by first | assumption | omega | (constructor <;> omega) | (simp only [Int.toNat_natCast]; omega) | exact b2_in _) (by first | assumption | omega | (constructor <;> omega) | (simp only [Int.toNat_natCast]; omega) | exact b2_in _) (by first | assumption | omega | (constructor <;> omega) | (simp only [Int.toNat_natCast]; omega) | exact b2_in _) (by first | assumption | omega | (constructor <;> omega) | (simp only [Int.toNat_natCast]; omega) | exact b2_in _) (by first | assumption | omega | (constructor <;> omega) | (simp only [Int.toNat_natCast]; omega) | exact b2_in _) (by decide) (by decide) ?_
  refine AW.iload (pc' := 139) dX11_shift_137 rfl ?_
  refine AW.iret dX11_shift_139 ?_ ?_
  · rfl
  · rfl
set_option maxRecDepth 100000 in
set_option maxHeartbeats 4000000 in
theorem tl_X11_shift50 {K : KT}  {dep : Nat} {h : Hp} {b d e x6 x7 : Int} (q0 : 0 ≤ b ∧ 0 ≤ d ∧ 0 ≤ e) (q1 : b + e ≤ 60) (q2 : d + e ≤ 60) (hd : 1 ≤ dep) :  AW K (XM K (some (vI e)) (hcpy h 56 51 b.toNat d.toNat e.toNat)) RX11 cX11_shift 8 (some .int) dep 111 [some (vR 0), some (vI (5)), some (vI (b)), some (vI (0)), some (vI (d)), some (vI (e)), some (vI (x6)), some (vI (x7))] [] h := by
  refine AW.aload_n (pc' := 112) dX11_shift_111 rfl ?_
  refine AW.getR (pc' := 115) dX11_shift_112 ly_0 fX11_81 rfl ?_
  refine AW.getR (pc' := 118) dX11_shift_115 ly_46 fX11_128 rfl ?_
  refine AW.iload_n (pc' := 119) dX11_shift_118 rfl ?_
  refine AW.aaldL (t := 56) (pc' := 120) dX11_shift_119 ly_50 (by decide) (by decide) (by decide) rfl ?_
  refine AW.iload_n (pc' := 121) dX11_shift_120 rfl ?_
  refine AW.aload_n (pc' := 122) dX11_shift_121 rfl ?_
  refine AW.getR (pc' := 125) dX11_shift_122 ly_0 fX11_81 rfl ?_
  refine AW.getR (pc' := 128) dX11_shift_125 ly_46 fX11_128 rfl ?_
  refine AW.iload_n (pc' := 129) dX11_shift_128 rfl ?_
  refine AW.aaldL (t := 51) (pc' := 130) dX11_shift_129 ly_50 (by decide) (by decide) (by decide) rfl ?_
  refine AW.iload (pc' := 132) dX11_shift_130 rfl ?_
  refine AW.iload (pc' := 134) dX11_shift_132 rfl ?_
  refine AW.copyL (pc' := 137) dX11_shift_134 mlX11_330 ly_56 ly_51 (by first | assumption | omega | (constructor <;> omega) | (simp only [Int.toNat_natCast]; omega) | exact b2_in _) (by first | assumption | omega | (constructor <;> omega) | (simp only [Int.toNat_natCast]; omega) | exact b2_in _) (by first | assumption | omega | (constructor <;> omega) | (simp only [Int.toNat_natCast]; omega) | exact b2_in _) (by first | assumption | omega | (constructor <;> omega) | (simp only [Int.toNat_natCast]; omega) | exact b2_in _) (by first | assumption | omega | (constructor <;> omega) | (simp only [Int.toNat_natCast]; omega) | exact b2_in _) (by decide) (by decide) ?_
  refine AW.iload (pc' := 139) dX11_shift_137 rfl ?_
  refine AW.iret dX11_shift_139 ?_ ?_
  · rfl
  · rfl
set_option maxRecDepth 100000 in
set_option maxHeartbeats 4000000 in
theorem tl_X11_shift51 {K : KT}  {dep : Nat} {h : Hp} {b d e x6 x7 : Int} (q0 : 0 ≤ b ∧ 0 ≤ d ∧ 0 ≤ e) (q1 : b + e ≤ 60) (q2 : d + e ≤ 60) (hd : 1 ≤ dep) :  AW K (XM K (some (vI e)) (hcpy h 56 52 b.toNat d.toNat e.toNat)) RX11 cX11_shift 8 (some .int) dep 111 [some (vR 0), some (vI (5)), some (vI (b)), some (vI (1)), some (vI (d)), some (vI (e)), some (vI (x6)), some (vI (x7))] [] h := by
  refine AW.aload_n (pc' := 112) dX11_shift_111 rfl ?_
  refine AW.getR (pc' := 115) dX11_shift_112 ly_0 fX11_81 rfl ?_
  refine AW.getR (pc' := 118) dX11_shift_115 ly_46 fX11_128 rfl ?_
  refine AW.iload_n (pc' := 119) dX11_shift_118 rfl ?_
  refine AW.aaldL (t := 56) (pc' := 120) dX11_shift_119 ly_50 (by decide) (by decide) (by decide) rfl ?_
  refine AW.iload_n (pc' := 121) dX11_shift_120 rfl ?_
  refine AW.aload_n (pc' := 122) dX11_shift_121 rfl ?_
  refine AW.getR (pc' := 125) dX11_shift_122 ly_0 fX11_81 rfl ?_
  refine AW.getR (pc' := 128) dX11_shift_125 ly_46 fX11_128 rfl ?_
  refine AW.iload_n (pc' := 129) dX11_shift_128 rfl ?_
  refine AW.aaldL (t := 52) (pc' := 130) dX11_shift_129 ly_50 (by decide) (by decide) (by decide) rfl ?_
  refine AW.iload (pc' := 132) dX11_shift_130 rfl ?_
  refine AW.iload (pc' := 134) dX11_shift_132 rfl ?_
  refine AW.copyL (pc' := 137) dX11_shift_134 mlX11_330 ly_56 ly_52 (by first | assumption | omega | (constructor <;> omega) | (simp only [Int.toNat_natCast]; omega) | exact b2_in _) (by first | assumption | omega | (constructor <;> omega) | (simp only [Int.toNat_natCast]; omega) | exact b2_in _) (by first | assumption | omega | (constructor <;> omega) | (simp only [Int.toNat_natCast]; omega) | exact b2_in _) (by first | assumption | omega | (constructor <;> omega) | (simp only [Int.toNat_natCast]; omega) | exact b2_in _) (by first | assumption | omega | (constructor <;> omega) | (simp only [Int.toNat_natCast]; omega) | exact b2_in _) (by decide) (by decide) ?_
  refine AW.iload (pc' := 139) dX11_shift_137 rfl ?_
  refine AW.iret dX11_shift_139 ?_ ?_
  · rfl
  · rfl
set_option maxRecDepth 100000 in
set_option maxHeartbeats 4000000 in
theorem tl_X11_shift52 {K : KT}  {dep : Nat} {h : Hp} {b d e x6 x7 : Int} (q0 : 0 ≤ b ∧ 0 ≤ d ∧ 0 ≤ e) (q1 : b + e ≤ 60) (q2 : d + e ≤ 60) (hd : 1 ≤ dep) :  AW K (XM K (some (vI e)) (hcpy h 56 53 b.toNat d.toNat e.toNat)) RX11 cX11_shift 8 (some .int) dep 111 [some (vR 0), some (vI (5)), some (vI (b)), some (vI (2)), some (vI (d)), some (vI (e)), some (vI (x6)), some (vI (x7))] [] h := by
  refine AW.aload_n (pc' := 112) dX11_shift_111 rfl ?_
  refine AW.getR (pc' := 115) dX11_shift_112 ly_0 fX11_81 rfl ?_
  refine AW.getR (pc' := 118) dX11_shift_115 ly_46 fX11_128 rfl ?_
  refine AW.iload_n (pc' := 119) dX11_shift_118 rfl ?_
  refine AW.aaldL (t := 56) (pc' := 120) dX11_shift_119 ly_50 (by decide) (by decide) (by decide) rfl ?_
  refine AW.iload_n (pc' := 121) dX11_shift_120 rfl ?_
  refine AW.aload_n (pc' := 122) dX11_shift_121 rfl ?_
  refine AW.getR (pc' := 125) dX11_shift_122 ly_0 fX11_81 rfl ?_
  refine AW.getR (pc' := 128) dX11_shift_125 ly_46 fX11_128 rfl ?_
  refine AW.iload_n (pc' := 129) dX11_shift_128 rfl ?_
  refine AW.aaldL (t := 53) (pc' := 130) dX11_shift_129 ly_50 (by decide) (by decide) (by decide) rfl ?_
  refine AW.iload (pc' := 132) dX11_shift_130 rfl ?_
  refine AW.iload (pc' := 134) dX11_shift_132 rfl ?_
  refine AW.copyL (pc' := 137) dX11_shift_134 mlX11_330 ly_56 ly_53 (by first | assumption | omega | (constructor <;> omega) | (simp only [Int.toNat_natCast]; omega) | exact b2_in _) (by first | assumption | omega | (constructor <;> omega) | (simp only [Int.toNat_natCast]; omega) | exact b2_in _) (by first | assumption | omega | (constructor <;> omega) | (simp only [Int.toNat_natCast]; omega) | exact b2_in _) (by first | assumption | omega | (constructor <;> omega) | (simp only [Int.toNat_natCast]; omega) | exact b2_in _) (by first | assumption | omega | (constructor <;> omega) | (simp only [Int.toNat_natCast]; omega) | exact b2_in _) (by decide) (by decide) ?_
  refine AW.iload (pc' := 139) dX11_shift_137 rfl ?_
  refine AW.iret dX11_shift_139 ?_ ?_
  · rfl
  · rfl
set_option maxRecDepth 100000 in
set_option maxHeartbeats 4000000 in
theorem tl_X11_shift53 {K : KT}  {dep : Nat} {h : Hp} {b d e x6 x7 : Int} (q0 : 0 ≤ b ∧ 0 ≤ d ∧ 0 ≤ e) (q1 : b + e ≤ 60) (q2 : d + e ≤ 60) (hd : 1 ≤ dep) :  AW K (XM K (some (vI e)) (hcpy h 56 54 b.toNat d.toNat e.toNat)) RX11 cX11_shift 8 (some .int) dep 111 [some (vR 0), some (vI (5)), some (vI (b)), some (vI (3)), some (vI (d)), some (vI (e)), some (vI (x6)), some (vI (x7))] [] h := by
  refine AW.aload_n (pc' := 112) dX11_shift_111 rfl ?_
  refine AW.getR (pc' := 115) dX11_shift_112 ly_0 fX11_81 rfl ?_
  refine AW.getR (pc' := 118) dX11_shift_115 ly_46 fX11_128 rfl ?_
  refine AW.iload_n (pc' := 119) dX11_shift_118 rfl ?_
  refine AW.aaldL (t := 56) (pc' := 120) dX11_shift_119 ly_50 (by decide) (by decide) (by decide) rfl ?_
  refine AW.iload_n (pc' := 121) dX11_shift_120 rfl ?_
  refine AW.aload_n (pc' := 122) dX11_shift_121 rfl ?_
  refine AW.getR (pc' := 125) dX11_shift_122 ly_0 fX11_81 rfl ?_
  refine AW.getR (pc' := 128) dX11_shift_125 ly_46 fX11_128 rfl ?_
  refine AW.iload_n (pc' := 129) dX11_shift_128 rfl ?_
  refine AW.aaldL (t := 54) (pc' := 130) dX11_shift_129 ly_50 (by decide) (by decide) (by decide) rfl ?_
  refine AW.iload (pc' := 132) dX11_shift_130 rfl ?_
  refine AW.iload (pc' := 134) dX11_shift_132 rfl ?_
  refine AW.copyL (pc' := 137) dX11_shift_134 mlX11_330 ly_56 ly_54 (by first | assumption | omega | (constructor <;> omega) | (simp only [Int.toNat_natCast]; omega) | exact b2_in _) (by first | assumption | omega | (constructor <;> omega) | (simp only [Int.toNat_natCast]; omega) | exact b2_in _) (by first | assumption | omega | (constructor <;> omega) | (simp only [Int.toNat_natCast]; omega) | exact b2_in _) (by first | assumption | omega | (constructor <;> omega) | (simp only [Int.toNat_natCast]; omega) | exact b2_in _) (by first | assumption | omega | (constructor <;> omega) | (simp only [Int.toNat_natCast]; omega) | exact b2_in _) (by decide) (by decide) ?_
  refine AW.iload (pc' := 139) dX11_shift_137 rfl ?_
  refine AW.iret dX11_shift_139 ?_ ?_
  · rfl
  · rfl
set_option maxRecDepth 100000 in
set_option maxHeartbeats 4000000 in
theorem tl_X11_shift54 {K : KT}  {dep : Nat} {h : Hp} {b d e x6 x7 : Int} (q0 : 0 ≤ b ∧ 0 ≤ d ∧ 0 ≤ e) (q1 : b + e ≤ 60) (q2 : d + e ≤ 60) (hd : 1 ≤ dep) :  AW K (XM K (some (vI e)) (hcpy h 56 55 b.toNat d.toNat e.toNat)) RX11 cX11_shift 8 (some .int) dep 111 [some (vR 0), some (vI (5)), some (vI (b)), some (vI (4)), some (vI (d)), some (vI (e)), some (vI (x6)), some (vI (x7))] [] h := by
  refine AW.aload_n (pc' := 112) dX11_shift_111 rfl ?_
  refine AW.getR (pc' := 115) dX11_shift_112 ly_0 fX11_81 rfl ?_
  refine AW.getR (pc' := 118) dX11_shift_115 ly_46 fX11_128 rfl ?_
  refine AW.iload_n (pc' := 119) dX11_shift_118 rfl ?_
  refine AW.aaldL (t := 56) (pc' := 120) dX11_shift_119 ly_50 (by decide) (by decide) (by decide) rfl ?_
  refine AW.iload_n (pc' := 121) dX11_shift_120 rfl ?_
  refine AW.aload_n (pc' := 122) dX11_shift_121 rfl ?_
  refine AW.getR (pc' := 125) dX11_shift_122 ly_0 fX11_81 rfl ?_
  refine AW.getR (pc' := 128) dX11_shift_125 ly_46 fX11_128 rfl ?_
  refine AW.iload_n (pc' := 129) dX11_shift_128 rfl ?_
  refine AW.aaldL (t := 55) (pc' := 130) dX11_shift_129 ly_50 (by decide) (by decide) (by decide) rfl ?_
  refine AW.iload (pc' := 132) dX11_shift_130 rfl ?_
  refine AW.iload (pc' := 134) dX11_shift_132 rfl ?_
  refine AW.copyL (pc' := 137) dX11_shift_134 mlX11_330 ly_56 ly_55 (by first | assumption | omega | (constructor <;> omega) | (simp only [Int.toNat_natCast]; omega) | exact b2_in _) (by first | assumption | omega | (constructor <;> omega) | (simp only [Int.toNat_natCast]; omega) | exact b2_in _) (by first | assumption | omega | (constructor <;> omega) | (simp only [Int.toNat_natCast]; omega) | exact b2_in _) (by first | assumption | omega | (constructor <;> omega) | (simp only [Int.toNat_natCast]; omega) | exact b2_in _) (by first | assumption | omega | (constructor <;> omega) | (simp only [Int.toNat_natCast]; omega) | exact b2_in _) (by decide) (by decide) ?_
  refine AW.iload (pc' := 139) dX11_shift_137 rfl ?_
  refine AW.iret dX11_shift_139 ?_ ?_
  · rfl
  · rfl
set_option maxRecDepth 100000 in
set_option maxHeartbeats 4000000 in
theorem tl_X11_shift55 {K : KT}  {dep : Nat} {h : Hp} {b d e x6 x7 : Int} (q0 : 0 ≤ b ∧ 0 ≤ d ∧ 0 ≤ e) (q1 : b + e ≤ 60) (q2 : d + e ≤ 60) (hd : 1 ≤ dep) :  AW K (XM K (some (vI e)) (hcpy h 56 56 b.toNat d.toNat e.toNat)) RX11 cX11_shift 8 (some .int) dep 111 [some (vR 0), some (vI (5)), some (vI (b)), some (vI (5)), some (vI (d)), some (vI (e)), some (vI (x6)), some (vI (x7))] [] h := by
  refine AW.aload_n (pc' := 112) dX11_shift_111 rfl ?_
  refine AW.getR (pc' := 115) dX11_shift_112 ly_0 fX11_81 rfl ?_
  refine AW.getR (pc' := 118) dX11_shift_115 ly_46 fX11_128 rfl ?_
  refine AW.iload_n (pc' := 119) dX11_shift_118 rfl ?_
  refine AW.aaldL (t := 56) (pc' := 120) dX11_shift_119 ly_50 (by decide) (by decide) (by decide) rfl ?_
  refine AW.iload_n (pc' := 121) dX11_shift_120 rfl ?_
  refine AW.aload_n (pc' := 122) dX11_shift_121 rfl ?_
  refine AW.getR (pc' := 125) dX11_shift_122 ly_0 fX11_81 rfl ?_
  refine AW.getR (pc' := 128) dX11_shift_125 ly_46 fX11_128 rfl ?_
  refine AW.iload_n (pc' := 129) dX11_shift_128 rfl ?_
  refine AW.aaldL (t := 56) (pc' := 130) dX11_shift_129 ly_50 (by decide) (by decide) (by decide) rfl ?_
  refine AW.iload (pc' := 132) dX11_shift_130 rfl ?_
  refine AW.iload (pc' := 134) dX11_shift_132 rfl ?_
  refine AW.copyL (pc' := 137) dX11_shift_134 mlX11_330 ly_56 ly_56 (by first | assumption | omega | (constructor <;> omega) | (simp only [Int.toNat_natCast]; omega) | exact b2_in _) (by first | assumption | omega | (constructor <;> omega) | (simp only [Int.toNat_natCast]; omega) | exact b2_in _) (by first | assumption | omega | (constructor <;> omega) | (simp only [Int.toNat_natCast]; omega) | exact b2_in _) (by first | assumption | omega | (constructor <;> omega) | (simp only [Int.toNat_natCast]; omega) | exact b2_in _) (by first | assumption | omega | (constructor <;> omega) | (simp only [Int.toNat_natCast]; omega) | exact b2_in _) (by decide) (by decide) ?_
  refine AW.iload (pc' := 139) dX11_shift_137 rfl ?_
  refine AW.iret dX11_shift_139 ?_ ?_
  · rfl
  · rfl
set_option maxRecDepth 100000 in
set_option maxHeartbeats 4000000 in
theorem c_X11_shift {K : KT} {dep : Nat} {h : Hp} {a b c d e : Int} (hd : 2 ≤ dep) (qp : PShe (h 47) (h 49)) (q1 : inI a) (q2 : inI b) (q3 : inI c) (q4 : inI d) (q5 : inI e) : AM K yX11_shift cX11_shift 8 (some .int) dep [vR 0, vI a, vI b, vI c, vI d, vI e] h (some (vI (if ¬ ((0 ≤ a ∧ a < 6) ∧ (0 ≤ c ∧ c < 6)) then -1 else if h 47 a.toNat = 6 ∨ h 47 c.toNat = 6 then -11 else if h 47 a.toNat = 5 ∨ h 47 a.toNat ≠ h 47 c.toNat then -12 else if ¬ ((0 ≤ b ∧ 0 ≤ e ∧ b + e ≤ h 49 a.toNat) ∧ (0 ≤ d ∧ d + e ≤ h 49 c.toNat)) then -13 else e))) (if ((0 ≤ a ∧ a < 6) ∧ (0 ≤ c ∧ c < 6)) ∧ ¬ (h 47 a.toNat = 6 ∨ h 47 c.toNat = 6) ∧ ¬ (h 47 a.toNat = 5 ∨ h 47 a.toNat ≠ h 47 c.toNat) ∧ ((0 ≤ b ∧ 0 ≤ e ∧ b + e ≤ h 49 a.toNat) ∧ (0 ≤ d ∧ d + e ≤ h 49 c.toNat)) then hcpy h (51 + a.toNat) (51 + c.toNat) b.toNat d.toNat e.toNat else h) := by
  refine AM.of (own := RX11) (ls := [some (vR 0), some (vI a), some (vI b), some (vI c), some (vI d), some (vI e), none, none]) rfl (by decide +kernel) (by exact Nat.le_of_ble_eq_true rfl) rfl (fun hO => ?_)
  refine AW.aload_n (pc' := 1) dX11_shift_0 rfl ?_
  refine AW.getR (pc' := 4) dX11_shift_1 ly_0 fX11_81 rfl ?_
  refine AW.iload_n (pc' := 5) dX11_shift_4 rfl ?_
  refine AW.invV1 (pc' := 8) dX11_shift_5 mlX11_111 mX8_has ly_46 rfl (c_X8_has (dep := dep - 1) (by first | assumption | omega | (constructor <;> omega) | (simp only [Int.toNat_natCast]; omega) | exact b2_in _)) ?_
  refine AW.ifb_eq (tgt := 22) (pc' := 11) dX11_shift_8 (fun c8 => ?_) (fun c8 => ?_)
  · refine AW.iconst (pc' := 23) dX11_shift_22 ?_
    refine AW.iret dX11_shift_23 ?_ ?_
    · refine congrArg (fun z : Int => (some (vI z) : Option AV)) ?_
      (repeat' split) <;> first | rfl | omega
    · rw [if_neg (by omega)]
  · refine AW.aload_n (pc' := 12) dX11_shift_11 rfl ?_
    refine AW.getR (pc' := 15) dX11_shift_12 ly_0 fX11_81 rfl ?_
    refine AW.iload_n (pc' := 16) dX11_shift_15 rfl ?_
    refine AW.invV1 (pc' := 19) dX11_shift_16 mlX11_111 mX8_has ly_46 rfl (c_X8_has (dep := dep - 1) (by first | assumption | omega | (constructor <;> omega) | (simp only [Int.toNat_natCast]; omega) | exact b2_in _)) ?_
    refine AW.ifb_ne (tgt := 24) (pc' := 22) dX11_shift_19 (fun c19 => ?_) (fun c19 => ?_)
    · refine AW.aload_n (pc' := 25) dX11_shift_24 rfl ?_
      refine AW.getR (pc' := 28) dX11_shift_25 ly_0 fX11_81 rfl ?_
      refine AW.getR (pc' := 31) dX11_shift_28 ly_46 fX11_115 rfl ?_
      refine AW.iload_n (pc' := 32) dX11_shift_31 rfl ?_
      first | refine AW.ialdN (pc' := 33) dX11_shift_32 ly_47 (by first | assumption | omega | (constructor <;> omega) | (simp only [Int.toNat_natCast]; omega) | exact b2_in _) (by decide) (fun r32 => ?_) | refine AW.iald (pc' := 33) dX11_shift_32 ly_47 (by first | assumption | omega | (constructor <;> omega) | (simp only [Int.toNat_natCast]; omega) | exact b2_in _) (by first | assumption | omega | (constructor <;> omega) | (simp only [Int.toNat_natCast]; omega) | exact b2_in _) (by decide) (fun r32 => ?_)
      refine AW.istore6 (pc' := 35) dX11_shift_33 (by decide) rfl ?_
      refine AW.aload_n (pc' := 36) dX11_shift_35 rfl ?_
      refine AW.getR (pc' := 39) dX11_shift_36 ly_0 fX11_81 rfl ?_
      refine AW.getR (pc' := 42) dX11_shift_39 ly_46 fX11_115 rfl ?_
      refine AW.iload_n (pc' := 43) dX11_shift_42 rfl ?_
      first | refine AW.ialdN (pc' := 44) dX11_shift_43 ly_47 (by first | assumption | omega | (constructor <;> omega) | (simp only [Int.toNat_natCast]; omega) | exact b2_in _) (by decide) (fun r43 => ?_) | refine AW.iald (pc' := 44) dX11_shift_43 ly_47 (by first | assumption | omega | (constructor <;> omega) | (simp only [Int.toNat_natCast]; omega) | exact b2_in _) (by first | assumption | omega | (constructor <;> omega) | (simp only [Int.toNat_natCast]; omega) | exact b2_in _) (by decide) (fun r43 => ?_)
      refine AW.istore7 (pc' := 46) dX11_shift_44 (by decide) rfl ?_
      refine AW.iload (pc' := 48) dX11_shift_46 rfl ?_
      refine AW.bipush (pc' := 50) dX11_shift_48 (by decide) ?_
      refine AW.icmp_eq (tgt := 60) (pc' := 53) dX11_shift_50 (by first | assumption | omega | (constructor <;> omega) | (simp only [Int.toNat_natCast]; omega) | exact b2_in _) (by first | assumption | omega | (constructor <;> omega) | (simp only [Int.toNat_natCast]; omega) | exact b2_in _) (fun c50 => ?_) (fun c50 => ?_)
      · refine AW.bipush (pc' := 62) dX11_shift_60 (by decide) ?_
        refine AW.iret dX11_shift_62 ?_ ?_
        · refine congrArg (fun z : Int => (some (vI z) : Option AV)) ?_
          (repeat' split) <;> first | rfl | omega
        · rw [if_neg (by omega)]
      · refine AW.iload (pc' := 55) dX11_shift_53 rfl ?_
        refine AW.bipush (pc' := 57) dX11_shift_55 (by decide) ?_
        refine AW.icmp_ne (tgt := 63) (pc' := 60) dX11_shift_57 (by first | assumption | omega | (constructor <;> omega) | (simp only [Int.toNat_natCast]; omega) | exact b2_in _) (by first | assumption | omega | (constructor <;> omega) | (simp only [Int.toNat_natCast]; omega) | exact b2_in _) (fun c57 => ?_) (fun c57 => ?_)
        · refine AW.iload (pc' := 65) dX11_shift_63 rfl ?_
          refine AW.iconst (pc' := 66) dX11_shift_65 ?_
          refine AW.icmp_eq (tgt := 76) (pc' := 69) dX11_shift_66 (by first | assumption | omega | (constructor <;> omega) | (simp only [Int.toNat_natCast]; omega) | exact b2_in _) (by first | assumption | omega | (constructor <;> omega) | (simp only [Int.toNat_natCast]; omega) | exact b2_in _) (fun c66 => ?_) (fun c66 => ?_)
          · refine AW.bipush (pc' := 78) dX11_shift_76 (by decide) ?_
            refine AW.iret dX11_shift_78 ?_ ?_
            · refine congrArg (fun z : Int => (some (vI z) : Option AV)) ?_
              (repeat' split) <;> first | rfl | omega
            · rw [if_neg (by omega)]
          · refine AW.iload (pc' := 71) dX11_shift_69 rfl ?_
            refine AW.iload (pc' := 73) dX11_shift_71 rfl ?_
            refine AW.icmp_eq (tgt := 79) (pc' := 76) dX11_shift_73 (by first | assumption | omega | (constructor <;> omega) | (simp only [Int.toNat_natCast]; omega) | exact b2_in _) (by first | assumption | omega | (constructor <;> omega) | (simp only [Int.toNat_natCast]; omega) | exact b2_in _) (fun c73 => ?_) (fun c73 => ?_)
            · refine AW.aload_n (pc' := 80) dX11_shift_79 rfl ?_
              refine AW.getR (pc' := 83) dX11_shift_80 ly_0 fX11_81 rfl ?_
              refine AW.iload_n (pc' := 84) dX11_shift_83 rfl ?_
              refine AW.iload_n (pc' := 85) dX11_shift_84 rfl ?_
              refine AW.iload (pc' := 87) dX11_shift_85 rfl ?_
              refine AW.invV3 (pc' := 90) dX11_shift_87 mlX11_327 mX8_reaches ly_46 rfl (c_X8_reaches (dep := dep - 1) (by first | assumption | omega | (constructor <;> omega) | (simp only [Int.toNat_natCast]; omega) | exact b2_in _) (by first | assumption | omega | (constructor <;> omega) | (simp only [Int.toNat_natCast]; omega) | exact b2_in _) (by first | assumption | omega | (constructor <;> omega) | (simp only [Int.toNat_natCast]; omega) | exact b2_in _)) ?_
              refine AW.ifb_eq (tgt := 108) (pc' := 93) dX11_shift_90 (fun c90 => ?_) (fun c90 => ?_)
              · refine AW.bipush (pc' := 110) dX11_shift_108 (by decide) ?_
                refine AW.iret dX11_shift_110 ?_ ?_
                · refine congrArg (fun z : Int => (some (vI z) : Option AV)) ?_
                  (repeat' split) <;> first | rfl | omega
                · rw [if_neg (by omega)]
              · refine AW.aload_n (pc' := 94) dX11_shift_93 rfl ?_
                refine AW.getR (pc' := 97) dX11_shift_94 ly_0 fX11_81 rfl ?_
                refine AW.iload_n (pc' := 98) dX11_shift_97 rfl ?_
                refine AW.iload (pc' := 100) dX11_shift_98 rfl ?_
                refine AW.iload (pc' := 102) dX11_shift_100 rfl ?_
                refine AW.invV3 (pc' := 105) dX11_shift_102 mlX11_327 mX8_reaches ly_46 rfl (c_X8_reaches (dep := dep - 1) (by first | assumption | omega | (constructor <;> omega) | (simp only [Int.toNat_natCast]; omega) | exact b2_in _) (by first | assumption | omega | (constructor <;> omega) | (simp only [Int.toNat_natCast]; omega) | exact b2_in _) (by first | assumption | omega | (constructor <;> omega) | (simp only [Int.toNat_natCast]; omega) | exact b2_in _)) ?_
                refine AW.ifb_ne (tgt := 111) (pc' := 108) dX11_shift_105 (fun c105 => ?_) (fun c105 => ?_)
                · have ok : ((0 ≤ a ∧ a < 6) ∧ (0 ≤ c ∧ c < 6)) ∧ ¬ (h 47 a.toNat = 6 ∨ h 47 c.toNat = 6) ∧ ¬ (h 47 a.toNat = 5 ∨ h 47 a.toNat ≠ h 47 c.toNat) ∧ ((0 ≤ b ∧ 0 ≤ e ∧ b + e ≤ h 49 a.toNat) ∧ (0 ≤ d ∧ d + e ≤ h 49 c.toNat)) := by omega
                  have pa := qp a.toNat (by omega)
                  have pc := qp c.toNat (by omega)
                  rw [if_pos ok, if_neg (by omega), if_neg (by omega), if_neg (by omega), if_neg (by omega)]
                  have ca : a = 0 ∨ a = 1 ∨ a = 2 ∨ a = 3 ∨ a = 4 ∨ a = 5 := by omega
                  have cc : c = 0 ∨ c = 1 ∨ c = 2 ∨ c = 3 ∨ c = 4 ∨ c = 5 := by omega
                  have q0 : 0 ≤ b ∧ 0 ≤ d ∧ 0 ≤ e := by omega
                  have q1 : b + e ≤ 60 := by omega
                  have q2 : d + e ≤ 60 := by omega
                  clear ok
                  rcases ca with rfl | rfl | rfl | rfl | rfl | rfl
                  · rcases cc with rfl | rfl | rfl | rfl | rfl | rfl
                    · exact tl_X11_shift00 q0 q1 q2 (by omega)
                    · exact tl_X11_shift01 q0 q1 q2 (by omega)
                    · exact tl_X11_shift02 q0 q1 q2 (by omega)
                    · exact tl_X11_shift03 q0 q1 q2 (by omega)
                    · exact tl_X11_shift04 q0 q1 q2 (by omega)
                    · exact tl_X11_shift05 q0 q1 q2 (by omega)
                  · rcases cc with rfl | rfl | rfl | rfl | rfl | rfl
                    · exact tl_X11_shift10 q0 q1 q2 (by omega)
                    · exact tl_X11_shift11 q0 q1 q2 (by omega)
                    · exact tl_X11_shift12 q0 q1 q2 (by omega)
                    · exact tl_X11_shift13 q0 q1 q2 (by omega)
                    · exact tl_X11_shift14 q0 q1 q2 (by omega)
                    · exact tl_X11_shift15 q0 q1 q2 (by omega)
                  · rcases cc with rfl | rfl | rfl | rfl | rfl | rfl
                    · exact tl_X11_shift20 q0 q1 q2 (by omega)
                    · exact tl_X11_shift21 q0 q1 q2 (by omega)
                    · exact tl_X11_shift22 q0 q1 q2 (by omega)
                    · exact tl_X11_shift23 q0 q1 q2 (by omega)
                    · exact tl_X11_shift24 q0 q1 q2 (by omega)
                    · exact tl_X11_shift25 q0 q1 q2 (by omega)
                  · rcases cc with rfl | rfl | rfl | rfl | rfl | rfl
                    · exact tl_X11_shift30 q0 q1 q2 (by omega)
                    · exact tl_X11_shift31 q0 q1 q2 (by omega)
                    · exact tl_X11_shift32 q0 q1 q2 (by omega)
                    · exact tl_X11_shift33 q0 q1 q2 (by omega)
                    · exact tl_X11_shift34 q0 q1 q2 (by omega)
                    · exact tl_X11_shift35 q0 q1 q2 (by omega)
                  · rcases cc with rfl | rfl | rfl | rfl | rfl | rfl
                    · exact tl_X11_shift40 q0 q1 q2 (by omega)
                    · exact tl_X11_shift41 q0 q1 q2 (by omega)
                    · exact tl_X11_shift42 q0 q1 q2 (by omega)
                    · exact tl_X11_shift43 q0 q1 q2 (by omega)
                    · exact tl_X11_shift44 q0 q1 q2 (by omega)
                    · exact tl_X11_shift45 q0 q1 q2 (by omega)
                  · rcases cc with rfl | rfl | rfl | rfl | rfl | rfl
                    · exact tl_X11_shift50 q0 q1 q2 (by omega)
                    · exact tl_X11_shift51 q0 q1 q2 (by omega)
                    · exact tl_X11_shift52 q0 q1 q2 (by omega)
                    · exact tl_X11_shift53 q0 q1 q2 (by omega)
                    · exact tl_X11_shift54 q0 q1 q2 (by omega)
                    · exact tl_X11_shift55 q0 q1 q2 (by omega)
                · refine AW.bipush (pc' := 110) dX11_shift_108 (by decide) ?_
                  refine AW.iret dX11_shift_110 ?_ ?_
                  · refine congrArg (fun z : Int => (some (vI z) : Option AV)) ?_
                    (repeat' split) <;> first | rfl | omega
                  · rw [if_neg (by omega)]
            · refine AW.bipush (pc' := 78) dX11_shift_76 (by decide) ?_
              refine AW.iret dX11_shift_78 ?_ ?_
              · refine congrArg (fun z : Int => (some (vI z) : Option AV)) ?_
                (repeat' split) <;> first | rfl | omega
              · rw [if_neg (by omega)]
        · refine AW.bipush (pc' := 62) dX11_shift_60 (by decide) ?_
          refine AW.iret dX11_shift_62 ?_ ?_
          · refine congrArg (fun z : Int => (some (vI z) : Option AV)) ?_
            (repeat' split) <;> first | rfl | omega
          · rw [if_neg (by omega)]
    · refine AW.iconst (pc' := 23) dX11_shift_22 ?_
      refine AW.iret dX11_shift_23 ?_ ?_
      · refine congrArg (fun z : Int => (some (vI z) : Option AV)) ?_
        (repeat' split) <;> first | rfl | omega
      · rw [if_neg (by omega)]
def rnC (len nr nc ns : Int) (row : Nat → Int) (i : Int) : Nat → Nat → Int → Int
  | 0, c, _ => c
  | m + 1, c, s => if rfP s len nr nc ns row (i + 5 * (c : Int)) then rnC len nr nc ns row i m (c + 1) (s + 1) else c
abbrev w5 (row : Nat → Int) (f : Nat) (k : Nat) : Int := wr (row (f + k))
def rnX (g : Hp) (a i : Int) : Nat → Nat → Hp → Hp → Prop
  | 0, _, h, x => x = h
  | m + 1, c, h, x => (¬ rfP (h 12 10) (g 49 a.toNat) (g 1 4) (g 10 1) (g 6 3) (g (51 + a.toNat)) (i + 5 * (c : Int)) ∧ x = h) ∨ (rfP (h 12 10) (g 49 a.toNat) (g 1 4) (g 10 1) (g 6 3) (g (51 + a.toNat)) (i + 5 * (c : Int)) ∧ ∃ h1, CP h (wr (g (51 + a.toNat) (i + 5 * (c : Int)).toNat)) (wr (g (51 + a.toNat) ((i + 5 * (c : Int)).toNat + 1))) (wr (g (51 + a.toNat) ((i + 5 * (c : Int)).toNat + 2))) (wr (g (51 + a.toNat) ((i + 5 * (c : Int)).toNat + 3))) (wr (g (51 + a.toNat) ((i + 5 * (c : Int)).toNat + 4))) h1 ∧ rnX g a i m (c + 1) h1 x)
abbrev R8 : List Nat := [12, 13, 14, 15, 16, 17, 18, 19]
set_option maxRecDepth 100000 in
set_option maxHeartbeats 4000000 in
theorem lp_X11_runs {K : KT} {X : XT} {dep : Nat} {h : Hp} {a i n : Int} (qa : 0 ≤ a ∧ a < 6) (qi : inI i) (ql : 0 ≤ h 49 a.toNat ∧ h 49 a.toNat ≤ 60) (qn : n ≤ 12) (hd : 4 ≤ dep) : ∀ (m k : Nat) (h1 : Hp), (k : Int) + m = n → EX R8 h h1 → PO (h1 12 10) (h1 18) → PO (h1 12 10) (h1 19) → 0 ≤ h1 12 10 ∧ h1 12 10 ≤ 120 → (∀ h2 : Hp, rnX h a i m k h1 h2 → AW K X RX11 cX11_runs 5 (some .int) dep 88 [some (vR 0), some (vI (a)), some (vI (i)), some (vI (n)), some (vI (rnC (h 49 a.toNat) (h 1 4) (h 10 1) (h 6 3) (h (51 + a.toNat)) i m k (h1 12 10)))] [] h2) → AW K X RX11 cX11_runs 5 (some .int) dep 58 [some (vR 0), some (vI (a)), some (vI (i)), some (vI (n)), some (vI ((k : Int)))] [] h1 := by
  intro m
  induction m with
  | zero =>
    intro k h1 hk e1 hP1 hP2 hs kk
    refine AW.iload (pc' := 60) dX11_runs_58 rfl ?_
    refine AW.iload_n (pc' := 61) dX11_runs_60 rfl ?_
    refine AW.icmp_ge (tgt := 88) (pc' := 64) dX11_runs_61 (by first | assumption | omega | (constructor <;> omega) | (simp only [Int.toNat_natCast]; omega) | exact b2_in _) (by first | assumption | omega | (constructor <;> omega) | (simp only [Int.toNat_natCast]; omega) | exact b2_in _) (fun c61 => ?_) (fun c61 => ?_)
    · exact AW.weak (kk h1 rfl) (by (repeat' first | exact LSub.e | refine LSub.n ?_ | refine LSub.c ?_ ?_) <;> first | rfl | exact congrArg Sum.inl (by first | rfl | omega | omega) | exact congrArg (fun z : Int => (vL z : AV)) (by first | rfl | omega | omega))
    · omega
  | succ m ih =>
    intro k h1 hk e1 hP1 hP2 hs kk
    have w1 := e1 1 rfl
    have w6 := e1 6 rfl
    have w10 := e1 10 rfl
    have w49 := e1 49 rfl
    have wL := e1 (51 + a.toNat) (by simp; omega)
    have q49 : 0 ≤ h1 49 a.toNat ∧ h1 49 a.toNat ≤ 60 := by rw [w49]; exact ql
    refine AW.iload (pc' := 60) dX11_runs_58 rfl ?_
    refine AW.iload_n (pc' := 61) dX11_runs_60 rfl ?_
    refine AW.icmp_ge (tgt := 88) (pc' := 64) dX11_runs_61 (by first | assumption | omega | (constructor <;> omega) | (simp only [Int.toNat_natCast]; omega) | exact b2_in _) (by first | assumption | omega | (constructor <;> omega) | (simp only [Int.toNat_natCast]; omega) | exact b2_in _) (fun c61 => ?_) (fun c61 => ?_)
    · omega
    · refine AW.aload_n (pc' := 65) dX11_runs_64 rfl ?_
      refine AW.iload_n (pc' := 66) dX11_runs_65 rfl ?_
      refine AW.iload_n (pc' := 67) dX11_runs_66 rfl ?_
      refine AW.i2l (pc' := 68) dX11_runs_67 (by first | assumption | omega | (constructor <;> omega) | (simp only [Int.toNat_natCast]; omega) | exact b2_in _) ?_
      refine AW.ldc2 (v := 5) (pc' := 71) dX11_runs_68 klX11_119 ?_
      refine AW.iload (pc' := 73) dX11_runs_71 rfl ?_
      refine AW.i2l (pc' := 74) dX11_runs_73 (by first | assumption | omega | (constructor <;> omega) | (simp only [Int.toNat_natCast]; omega) | exact b2_in _) ?_
      refine AW.lmul (pc' := 75) dX11_runs_74 ?_
      refine AW.ladd (pc' := 76) dX11_runs_75 ?_
      refine AW.invQ2 (pc' := 79) dX11_runs_76 mlX11_121 mX11_runFromRow ly_0 rfl (c_X11_runFromRow (dep := dep - 1) (by omega) hs.1 hP1 hP2 qa q49 (by omega)) (fun h76 s76 => ?_)
      try simp only [Int.toNat_natCast, w1, w6, w10, w49, wL]
      refine AW.ifb_eq (tgt := 88) (pc' := 82) dX11_runs_79 (fun c79 => ?_) (fun c79 => ?_)
      · rcases s76 with ⟨s1, rfl⟩ | ⟨s1, s2⟩
        · have z : rnC (h 49 a.toNat) (h 1 4) (h 10 1) (h 6 3) (h (51 + a.toNat)) i (m + 1) k (h76 12 10) = k := by
            conv => lhs; unfold rnC
            rw [if_neg c79]
          rw [z] at kk
          exact AW.weak (kk h76 (Or.inl ⟨c79, rfl⟩)) (by (repeat' first | exact LSub.e | refine LSub.n ?_ | refine LSub.c ?_ ?_) <;> first | rfl | exact congrArg Sum.inl (by first | rfl | omega | omega) | exact congrArg (fun z : Int => (vL z : AV)) (by first | rfl | omega | omega))
        · rw [w1, w6, w10, w49, wL] at s1
          exact absurd s1 c79
      · refine AW.iinc4 (pc' := 85) dX11_runs_82 (by decide) rfl ?_
        refine AW.goto (tgt := 58) dX11_runs_85 ?_
        rcases s76 with ⟨s1, -⟩ | ⟨s1, s2⟩
        · rw [w1, w6, w10, w49, wL] at s1
          exact absurd c79 s1
        · rw [wL] at s2
          have n3 : h76 12 10 = h1 12 10 + 1 := by rw [s2.2.1 10]; simp [upR]
          have hp := PO.cp hs.1 s2 hP1 hP2
          have z : rnC (h 49 a.toNat) (h 1 4) (h 10 1) (h 6 3) (h (51 + a.toNat)) i (m + 1) k (h1 12 10) = rnC (h 49 a.toNat) (h 1 4) (h 10 1) (h 6 3) (h (51 + a.toNat)) i m (k + 1) (h76 12 10) := by
            conv => lhs; unfold rnC
            rw [if_pos c79, n3]
          rw [z] at kk
          have c79b := c79.2.2
          exact AW.weak (ih (k + 1) h76 (by omega) (e1.tr s2.1) hp.1 hp.2 (by omega) (fun x hx => kk x (Or.inr ⟨c79, h76, s2, hx⟩))) (by (repeat' first | exact LSub.e | refine LSub.n ?_ | refine LSub.c ?_ ?_) <;> first | rfl | exact congrArg Sum.inl (by first | rfl | omega | (push_cast; omega)) | exact congrArg (fun z : Int => (vL z : AV)) (by first | rfl | omega | (push_cast; omega)))
set_option maxRecDepth 100000 in
set_option maxHeartbeats 4000000 in
theorem c_X11_runs {K : KT} {dep : Nat} {h : Hp} {a i n : Int} (hd : 4 ≤ dep) (qs : 0 ≤ h 12 10 ∧ h 12 10 ≤ 120) (hQ1 : PO (h 12 10) (h 18)) (hQ2 : PO (h 12 10) (h 19)) (qp : PShe (h 47) (h 49)) (q4 : inI a) (q5 : inI i) (q6 : inI n) : AMp K yX11_runs cX11_runs 5 (some .int) dep [vR 0, vI a, vI i, vI n] h (some (vI (if ¬ ((0 ≤ a ∧ a < 6) ∧ 1 ≤ n ∧ n ≤ 12) then -1 else if h 47 a.toNat = 6 then 0 else if h 47 a.toNat ≠ 2 then -12 else rnC (h 49 a.toNat) (h 1 4) (h 10 1) (h 6 3) (h (51 + a.toNat)) i n.toNat 0 (h 12 10)))) (fun x => ((¬ ((0 ≤ a ∧ a < 6) ∧ 1 ≤ n ∧ n ≤ 12) ∨ h 47 a.toNat ≠ 2) ∧ x = h) ∨ (¬ (¬ ((0 ≤ a ∧ a < 6) ∧ 1 ≤ n ∧ n ≤ 12)) ∧ h 47 a.toNat = 2 ∧ rnX h a i n.toNat 0 h x)) := by
  refine AM.of (own := RX11) (ls := [some (vR 0), some (vI a), some (vI i), some (vI n), none]) rfl (by decide +kernel) (by exact Nat.le_of_ble_eq_true rfl) rfl (fun hO => ?_)
  refine AW.aload_n (pc' := 1) dX11_runs_0 rfl ?_
  refine AW.getR (pc' := 4) dX11_runs_1 ly_0 fX11_81 rfl ?_
  refine AW.iload_n (pc' := 5) dX11_runs_4 rfl ?_
  refine AW.invV1 (pc' := 8) dX11_runs_5 mlX11_111 mX8_has ly_46 rfl (c_X8_has (dep := dep - 1) (by first | assumption | omega | (constructor <;> omega) | (simp only [Int.toNat_natCast]; omega) | exact b2_in _)) ?_
  refine AW.ifb_eq (tgt := 21) (pc' := 11) dX11_runs_8 (fun c8 => ?_) (fun c8 => ?_)
  · refine AW.iconst (pc' := 22) dX11_runs_21 ?_
    refine AW.iret dX11_runs_22 ?_ ?_
    · refine congrArg (fun z : Int => (some (vI z) : Option AV)) ?_
      first | (rw [if_pos (by omega)]; done) | (rw [if_neg (by omega), if_pos (by omega)]; done) | (rw [if_neg (by omega), if_neg (by omega), if_pos (by omega)]; done) | (rw [if_neg (by omega), if_neg (by omega), if_neg (by omega)])
    · first | exact Or.inl ⟨by omega, rfl⟩ | exact Or.inr ⟨by omega, by omega, r2⟩
  · refine AW.iload_n (pc' := 12) dX11_runs_11 rfl ?_
    refine AW.iconst (pc' := 13) dX11_runs_12 ?_
    refine AW.bipush (pc' := 15) dX11_runs_13 (by decide) ?_
    refine AW.invS3 (pc' := 18) dX11_runs_15 mlX11_89 mX11_within (c_X11_within (dep := dep - 1) (by first | assumption | omega | (constructor <;> omega) | (simp only [Int.toNat_natCast]; omega) | exact b2_in _) (by first | assumption | omega | (constructor <;> omega) | (simp only [Int.toNat_natCast]; omega) | exact b2_in _) (by first | assumption | omega | (constructor <;> omega) | (simp only [Int.toNat_natCast]; omega) | exact b2_in _)) ?_
    refine AW.ifb_ne (tgt := 23) (pc' := 21) dX11_runs_18 (fun c18 => ?_) (fun c18 => ?_)
    · refine AW.aload_n (pc' := 24) dX11_runs_23 rfl ?_
      refine AW.getR (pc' := 27) dX11_runs_24 ly_0 fX11_81 rfl ?_
      refine AW.getR (pc' := 30) dX11_runs_27 ly_46 fX11_115 rfl ?_
      refine AW.iload_n (pc' := 31) dX11_runs_30 rfl ?_
      first | refine AW.ialdN (pc' := 32) dX11_runs_31 ly_47 (by first | assumption | omega | (constructor <;> omega) | (simp only [Int.toNat_natCast]; omega) | exact b2_in _) (by decide) (fun r31 => ?_) | refine AW.iald (pc' := 32) dX11_runs_31 ly_47 (by first | assumption | omega | (constructor <;> omega) | (simp only [Int.toNat_natCast]; omega) | exact b2_in _) (by first | assumption | omega | (constructor <;> omega) | (simp only [Int.toNat_natCast]; omega) | exact b2_in _) (by decide) (fun r31 => ?_)
      refine AW.bipush (pc' := 34) dX11_runs_32 (by decide) ?_
      refine AW.icmp_ne (tgt := 39) (pc' := 37) dX11_runs_34 (by first | assumption | omega | (constructor <;> omega) | (simp only [Int.toNat_natCast]; omega) | exact b2_in _) (by first | assumption | omega | (constructor <;> omega) | (simp only [Int.toNat_natCast]; omega) | exact b2_in _) (fun c34 => ?_) (fun c34 => ?_)
      · refine AW.aload_n (pc' := 40) dX11_runs_39 rfl ?_
        refine AW.getR (pc' := 43) dX11_runs_40 ly_0 fX11_81 rfl ?_
        refine AW.getR (pc' := 46) dX11_runs_43 ly_46 fX11_115 rfl ?_
        refine AW.iload_n (pc' := 47) dX11_runs_46 rfl ?_
        first | refine AW.ialdN (pc' := 48) dX11_runs_47 ly_47 (by first | assumption | omega | (constructor <;> omega) | (simp only [Int.toNat_natCast]; omega) | exact b2_in _) (by decide) (fun r47 => ?_) | refine AW.iald (pc' := 48) dX11_runs_47 ly_47 (by first | assumption | omega | (constructor <;> omega) | (simp only [Int.toNat_natCast]; omega) | exact b2_in _) (by first | assumption | omega | (constructor <;> omega) | (simp only [Int.toNat_natCast]; omega) | exact b2_in _) (by decide) (fun r47 => ?_)
        refine AW.iconst (pc' := 49) dX11_runs_48 ?_
        refine AW.icmp_eq (tgt := 55) (pc' := 52) dX11_runs_49 (by first | assumption | omega | (constructor <;> omega) | (simp only [Int.toNat_natCast]; omega) | exact b2_in _) (by first | assumption | omega | (constructor <;> omega) | (simp only [Int.toNat_natCast]; omega) | exact b2_in _) (fun c49 => ?_) (fun c49 => ?_)
        · refine AW.iconst (pc' := 56) dX11_runs_55 ?_
          refine AW.istore4 (pc' := 58) dX11_runs_56 (by decide) rfl ?_
          have ql := (qp a.toNat (by omega)).2.2
          refine AW.weak (lp_X11_runs (by omega) (i := i) (by omega) ql (n := n) (by omega) hd n.toNat 0 h (by omega) EX.rf hQ1 hQ2 qs (fun h2 r2 => ?_)) (by (repeat' first | exact LSub.e | refine LSub.n ?_ | refine LSub.c ?_ ?_) <;> first | rfl | exact congrArg Sum.inl (by first | rfl | omega | omega) | exact congrArg (fun z : Int => (vL z : AV)) (by first | rfl | omega | omega))
          refine AW.iload (pc' := 90) dX11_runs_88 rfl ?_
          refine AW.iret dX11_runs_90 ?_ ?_
          · refine congrArg (fun z : Int => (some (vI z) : Option AV)) ?_
            first | (rw [if_pos (by omega)]; done) | (rw [if_neg (by omega), if_pos (by omega)]; done) | (rw [if_neg (by omega), if_neg (by omega), if_pos (by omega)]; done) | (rw [if_neg (by omega), if_neg (by omega), if_neg (by omega)])
          · first | exact Or.inl ⟨by omega, rfl⟩ | exact Or.inr ⟨by omega, by omega, r2⟩
        · refine AW.bipush (pc' := 54) dX11_runs_52 (by decide) ?_
          refine AW.iret dX11_runs_54 ?_ ?_
          · refine congrArg (fun z : Int => (some (vI z) : Option AV)) ?_
            first | (rw [if_pos (by omega)]; done) | (rw [if_neg (by omega), if_pos (by omega)]; done) | (rw [if_neg (by omega), if_neg (by omega), if_pos (by omega)]; done) | (rw [if_neg (by omega), if_neg (by omega), if_neg (by omega)])
          · first | exact Or.inl ⟨by omega, rfl⟩ | exact Or.inr ⟨by omega, by omega, r2⟩
      · refine AW.iconst (pc' := 38) dX11_runs_37 ?_
        refine AW.iret dX11_runs_38 ?_ ?_
        · refine congrArg (fun z : Int => (some (vI z) : Option AV)) ?_
          first | (rw [if_pos (by omega)]; done) | (rw [if_neg (by omega), if_pos (by omega)]; done) | (rw [if_neg (by omega), if_neg (by omega), if_pos (by omega)]; done) | (rw [if_neg (by omega), if_neg (by omega), if_neg (by omega)])
        · first | exact Or.inl ⟨by omega, rfl⟩ | exact Or.inr ⟨by omega, by omega, r2⟩
    · refine AW.iconst (pc' := 22) dX11_runs_21 ?_
      refine AW.iret dX11_runs_22 ?_ ?_
      · refine congrArg (fun z : Int => (some (vI z) : Option AV)) ?_
        first | (rw [if_pos (by omega)]; done) | (rw [if_neg (by omega), if_pos (by omega)]; done) | (rw [if_neg (by omega), if_neg (by omega), if_pos (by omega)]; done) | (rw [if_neg (by omega), if_neg (by omega), if_neg (by omega)])
      · first | exact Or.inl ⟨by omega, rfl⟩ | exact Or.inr ⟨by omega, by omega, r2⟩
