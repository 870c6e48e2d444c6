set_option maxRecDepth 100000 in
set_option maxHeartbeats 4000000 in
theorem c_X11_race {K : KT} {dep : Nat} {h : Hp} {a b c d : Int} (hd : 54 ≤ dep) (hI : IXa h) (hQ1 : PO (h 12 10) (h 18)) (hQ2 : PO (h 12 10) (h 19)) (q0 : h 26 5 ≤ 4) (q1 : ∀ l : Nat, (l : Int) < h 26 5 → 0 ≤ h 34 l ∧ h 34 l ≤ 120) (q5 : inI a) (q6 : inI b) (q7 : inI c) (q8 : inI d) : AMp K yX11_race cX11_race 14 (some .int) dep [vR 0, vI a, vI b, vI c, vI d] h (some (vI (if ¬ (rcOK (h 26 5) (h 10 1) (h 6 3) (h 9) a b c) then -1 else if 120 < h 12 10 + h 1 4 then -5 else h 1 4))) (fun x => ((¬ (rcOK (h 26 5) (h 10 1) (h 6 3) (h 9) a b c) ∨ 120 < h 12 10 + h 1 4) ∧ x = h) ∨ ((rcOK (h 26 5) (h 10 1) (h 6 3) (h 9) a b c) ∧ h 12 10 + h 1 4 ≤ 120 ∧ raceX h (a.tdiv 10) (a.tmod 10) (b.tdiv 10) (b.tmod 10) c (h 1 4).toNat 0 d h x)) := by
  refine AM.of (own := RX11) (ls := [some (vR 0), some (vI a), some (vI b), some (vI c), some (vI d), none, none, none, none, none, none, none, none, none]) rfl (by decide +kernel) (by exact Nat.le_of_ble_eq_true rfl) rfl (fun hO => ?_)
  have d1 : 0 ≤ a → 0 ≤ a.tdiv 10 ∧ a.tdiv 10 ≤ a := fun z => tdiv_le z (by decide)
  have d2 : 0 ≤ b → 0 ≤ b.tdiv 10 ∧ b.tdiv 10 ≤ b := fun z => tdiv_le z (by decide)
  have m1 := tmod_bounds (a := a) (M := 10) (by decide)
  have m2 := tmod_bounds (a := b) (M := 10) (by decide)
  have a1 : a < 0 → a.tdiv 10 ≤ 0 ∧ -2147483648 ≤ a.tdiv 10 := fun z => tdiv_10n z (by omega)
  have a2 : b < 0 → b.tdiv 10 ≤ 0 ∧ -2147483648 ≤ b.tdiv 10 := fun z => tdiv_10n z (by omega)
  have ia : inI (a.tdiv 10) := by
    by_cases z : a < 0
    · have := a1 z; constructor <;> omega
    · have := d1 (by omega); constructor <;> omega
  have ib : inI (b.tdiv 10) := by
    by_cases z : b < 0
    · have := a2 z; constructor <;> omega
    · have := d2 (by omega); constructor <;> omega
  have g1 := hI.1.1
  have g20 := hI.1.2.1
  have g6 := hI.2.1.2.1
  have g5 := hI.2.2.1.2.1
  have g7 := hI.2.2.2.1
  have g8 := hI.2.2.2.2.1
  refine AW.iload_n (pc' := 1) dX11_race_0 rfl ?_
  refine AW.bipush (pc' := 3) dX11_race_1 (by decide) ?_
  refine AW.idiv (pc' := 4) dX11_race_3 (by first | assumption | omega | (constructor <;> omega) | (simp only [Int.toNat_natCast]; omega) | exact b2_in _) (by first | assumption | omega | (constructor <;> omega) | (simp only [Int.toNat_natCast]; omega) | exact b2_in _) (by first | assumption | omega | (constructor <;> omega) | (simp only [Int.toNat_natCast]; omega) | exact b2_in _) ?_
  refine AW.istore5 (pc' := 6) dX11_race_4 (by decide) rfl ?_
  refine AW.iload_n (pc' := 7) dX11_race_6 rfl ?_
  refine AW.bipush (pc' := 9) dX11_race_7 (by decide) ?_
  refine AW.irem (pc' := 10) dX11_race_9 (by first | assumption | omega | (constructor <;> omega) | (simp only [Int.toNat_natCast]; omega) | exact b2_in _) (by first | assumption | omega | (constructor <;> omega) | (simp only [Int.toNat_natCast]; omega) | exact b2_in _) (by first | assumption | omega | (constructor <;> omega) | (simp only [Int.toNat_natCast]; omega) | exact b2_in _) ?_
  refine AW.istore6 (pc' := 12) dX11_race_10 (by decide) rfl ?_
  refine AW.iload_n (pc' := 13) dX11_race_12 rfl ?_
  refine AW.bipush (pc' := 15) dX11_race_13 (by decide) ?_
  refine AW.idiv (pc' := 16) dX11_race_15 (by first | assumption | omega | (constructor <;> omega) | (simp only [Int.toNat_natCast]; omega) | exact b2_in _) (by first | assumption | omega | (constructor <;> omega) | (simp only [Int.toNat_natCast]; omega) | exact b2_in _) (by first | assumption | omega | (constructor <;> omega) | (simp only [Int.toNat_natCast]; omega) | exact b2_in _) ?_
  refine AW.istore7 (pc' := 18) dX11_race_16 (by decide) rfl ?_
  refine AW.iload_n (pc' := 19) dX11_race_18 rfl ?_
  refine AW.bipush (pc' := 21) dX11_race_19 (by decide) ?_
  refine AW.irem (pc' := 22) dX11_race_21 (by first | assumption | omega | (constructor <;> omega) | (simp only [Int.toNat_natCast]; omega) | exact b2_in _) (by first | assumption | omega | (constructor <;> omega) | (simp only [Int.toNat_natCast]; omega) | exact b2_in _) (by first | assumption | omega | (constructor <;> omega) | (simp only [Int.toNat_natCast]; omega) | exact b2_in _) ?_
  refine AW.istore8 (pc' := 24) dX11_race_22 (by decide) rfl ?_
  refine AW.iload_n (pc' := 25) dX11_race_24 rfl ?_
  refine AW.if_lt (tgt := 67) (pc' := 28) dX11_race_25 (by first | assumption | omega | (constructor <;> omega) | (simp only [Int.toNat_natCast]; omega) | exact b2_in _) (fun c25 => ?_) (fun c25 => ?_)
  · refine AW.iconst (pc' := 68) dX11_race_67 ?_
    refine AW.iret dX11_race_68 ?_ ?_
    · refine congrArg (fun z : Int => (some (vI z) : Option AV)) ?_
      first | (rw [if_pos (by omega)]; done) | (rw [if_neg (by omega), if_pos (by omega)]; done) | (rw [if_neg (by omega), if_neg (by omega), w1])
    · first | exact Or.inl ⟨by omega, rfl⟩ | exact Or.inr ⟨ok, by omega, r2⟩
  · refine AW.iload_n (pc' := 29) dX11_race_28 rfl ?_
    refine AW.if_lt (tgt := 67) (pc' := 32) dX11_race_29 (by first | assumption | omega | (constructor <;> omega) | (simp only [Int.toNat_natCast]; omega) | exact b2_in _) (fun c29 => ?_) (fun c29 => ?_)
    · refine AW.iconst (pc' := 68) dX11_race_67 ?_
      refine AW.iret dX11_race_68 ?_ ?_
      · refine congrArg (fun z : Int => (some (vI z) : Option AV)) ?_
        first | (rw [if_pos (by omega)]; done) | (rw [if_neg (by omega), if_pos (by omega)]; done) | (rw [if_neg (by omega), if_neg (by omega), w1])
      · first | exact Or.inl ⟨by omega, rfl⟩ | exact Or.inr ⟨ok, by omega, r2⟩
    · refine AW.iload (pc' := 34) dX11_race_32 rfl ?_
      refine AW.aload_n (pc' := 35) dX11_race_34 rfl ?_
      refine AW.getR (pc' := 38) dX11_race_35 ly_0 fX11_51 rfl ?_
      refine AW.getI (pc' := 41) dX11_race_38 ly_26 fX11_174 rfl (fun r38 => ?_)
      refine AW.icmp_ge (tgt := 67) (pc' := 44) dX11_race_41 (by first | assumption | omega | (constructor <;> omega) | (simp only [Int.toNat_natCast]; omega) | exact b2_in _) (by first | assumption | omega | (constructor <;> omega) | (simp only [Int.toNat_natCast]; omega) | exact b2_in _) (fun c41 => ?_) (fun c41 => ?_)
      · refine AW.iconst (pc' := 68) dX11_race_67 ?_
        refine AW.iret dX11_race_68 ?_ ?_
        · refine congrArg (fun z : Int => (some (vI z) : Option AV)) ?_
          first | (rw [if_pos (by omega)]; done) | (rw [if_neg (by omega), if_pos (by omega)]; done) | (rw [if_neg (by omega), if_neg (by omega), w1])
        · first | exact Or.inl ⟨by omega, rfl⟩ | exact Or.inr ⟨ok, by omega, r2⟩
      · refine AW.aload_n (pc' := 45) dX11_race_44 rfl ?_
        refine AW.getR (pc' := 48) dX11_race_45 ly_0 fX11_26 rfl ?_
        refine AW.iload (pc' := 50) dX11_race_48 rfl ?_
        refine AW.invV1 (pc' := 53) dX11_race_50 mlX11_133 mX4_has ly_10 rfl (c_X4_has (dep := dep - 1) (by first | assumption | omega | (constructor <;> omega) | (simp only [Int.toNat_natCast]; omega) | exact b2_in _)) ?_
        refine AW.ifb_eq (tgt := 67) (pc' := 56) dX11_race_53 (fun c53 => ?_) (fun c53 => ?_)
        · refine AW.iconst (pc' := 68) dX11_race_67 ?_
          refine AW.iret dX11_race_68 ?_ ?_
          · refine congrArg (fun z : Int => (some (vI z) : Option AV)) ?_
            first | (rw [if_pos (by omega)]; done) | (rw [if_neg (by omega), if_pos (by omega)]; done) | (rw [if_neg (by omega), if_neg (by omega), w1])
          · first | exact Or.inl ⟨by omega, rfl⟩ | exact Or.inr ⟨ok, by omega, r2⟩
        · refine AW.iload (pc' := 58) dX11_race_56 rfl ?_
          refine AW.iconst (pc' := 59) dX11_race_58 ?_
          refine AW.bipush (pc' := 61) dX11_race_59 (by decide) ?_
          refine AW.invS3 (pc' := 64) dX11_race_61 mlX11_89 mX11_within (c_X11_within (dep := dep - 1) (by first | assumption | omega | (constructor <;> omega) | (simp only [Int.toNat_natCast]; omega) | exact b2_in _) (by first | assumption | omega | (constructor <;> omega) | (simp only [Int.toNat_natCast]; omega) | exact b2_in _) (by first | assumption | omega | (constructor <;> omega) | (simp only [Int.toNat_natCast]; omega) | exact b2_in _)) ?_
          refine AW.ifb_ne (tgt := 69) (pc' := 67) dX11_race_64 (fun c64 => ?_) (fun c64 => ?_)
          · refine AW.aload_n (pc' := 70) dX11_race_69 rfl ?_
            refine AW.getR (pc' := 73) dX11_race_70 ly_0 fX11_19 rfl ?_
            refine AW.iload (pc' := 75) dX11_race_73 rfl ?_
            refine AW.invV1 (pc' := 78) dX11_race_75 mlX11_134 mX9_has ly_6 rfl (c_X9_has (dep := dep - 1) (by first | assumption | omega | (constructor <;> omega) | (simp only [Int.toNat_natCast]; omega) | exact b2_in _)) ?_
            refine AW.ifb_eq (tgt := 107) (pc' := 81) dX11_race_78 (fun c78 => ?_) (fun c78 => ?_)
            · refine AW.iconst (pc' := 108) dX11_race_107 ?_
              refine AW.iret dX11_race_108 ?_ ?_
              · refine congrArg (fun z : Int => (some (vI z) : Option AV)) ?_
                first | (rw [if_pos (by omega)]; done) | (rw [if_neg (by omega), if_pos (by omega)]; done) | (rw [if_neg (by omega), if_neg (by omega), w1])
              · first | exact Or.inl ⟨by omega, rfl⟩ | exact Or.inr ⟨ok, by omega, r2⟩
            · refine AW.aload_n (pc' := 82) dX11_race_81 rfl ?_
              refine AW.getR (pc' := 85) dX11_race_82 ly_0 fX11_19 rfl ?_
              refine AW.getR (pc' := 88) dX11_race_85 ly_6 fX11_177 rfl ?_
              refine AW.iload (pc' := 90) dX11_race_88 rfl ?_
              first | refine AW.ialdN (pc' := 91) dX11_race_90 ly_9 (by first | assumption | omega | (constructor <;> omega) | (simp only [Int.toNat_natCast]; omega) | exact b2_in _) (by decide) (fun r90 => ?_) | refine AW.iald (pc' := 91) dX11_race_90 ly_9 (by first | assumption | omega | (constructor <;> omega) | (simp only [Int.toNat_natCast]; omega) | exact b2_in _) (by first | assumption | omega | (constructor <;> omega) | (simp only [Int.toNat_natCast]; omega) | exact b2_in _) (by decide) (fun r90 => ?_)
              refine AW.iload (pc' := 93) dX11_race_91 rfl ?_
              refine AW.icmp_gt (tgt := 107) (pc' := 96) dX11_race_93 (by first | assumption | omega | (constructor <;> omega) | (simp only [Int.toNat_natCast]; omega) | exact b2_in _) (by first | assumption | omega | (constructor <;> omega) | (simp only [Int.toNat_natCast]; omega) | exact b2_in _) (fun c93 => ?_) (fun c93 => ?_)
              · refine AW.iconst (pc' := 108) dX11_race_107 ?_
                refine AW.iret dX11_race_108 ?_ ?_
                · refine congrArg (fun z : Int => (some (vI z) : Option AV)) ?_
                  first | (rw [if_pos (by omega)]; done) | (rw [if_neg (by omega), if_pos (by omega)]; done) | (rw [if_neg (by omega), if_neg (by omega), w1])
                · first | exact Or.inl ⟨by omega, rfl⟩ | exact Or.inr ⟨ok, by omega, r2⟩
              · refine AW.iload_n (pc' := 97) dX11_race_96 rfl ?_
                refine AW.bipush (pc' := 99) dX11_race_97 (by decide) ?_
                refine AW.bipush (pc' := 101) dX11_race_99 (by decide) ?_
                refine AW.invS3 (pc' := 104) dX11_race_101 mlX11_89 mX11_within (c_X11_within (dep := dep - 1) (by first | assumption | omega | (constructor <;> omega) | (simp only [Int.toNat_natCast]; omega) | exact b2_in _) (by first | assumption | omega | (constructor <;> omega) | (simp only [Int.toNat_natCast]; omega) | exact b2_in _) (by first | assumption | omega | (constructor <;> omega) | (simp only [Int.toNat_natCast]; omega) | exact b2_in _)) ?_
                refine AW.ifb_ne (tgt := 109) (pc' := 107) dX11_race_104 (fun c104 => ?_) (fun c104 => ?_)
                · refine AW.aload_n (pc' := 110) dX11_race_109 rfl ?_
                  refine AW.getR (pc' := 113) dX11_race_110 ly_0 fX11_35 rfl ?_
                  refine AW.getI (pc' := 116) dX11_race_113 ly_12 fX11_180 rfl (fun r113 => ?_)
                  refine AW.aload_n (pc' := 117) dX11_race_116 rfl ?_
                  refine AW.getR (pc' := 120) dX11_race_117 ly_0 fX11_10 rfl ?_
                  refine AW.getI (pc' := 123) dX11_race_120 ly_1 fX11_181 rfl (fun r120 => ?_)
                  refine AW.iadd (pc' := 124) dX11_race_123 ?_
                  refine AW.bipush (pc' := 126) dX11_race_124 (by decide) ?_
                  refine AW.icmp_le (tgt := 132) (pc' := 129) dX11_race_126 (by first | assumption | omega | (constructor <;> omega) | (simp only [Int.toNat_natCast]; omega) | exact b2_in _) (by first | assumption | omega | (constructor <;> omega) | (simp only [Int.toNat_natCast]; omega) | exact b2_in _) (fun c126 => ?_) (fun c126 => ?_)
                  · refine AW.iload (pc' := 134) dX11_race_132 rfl ?_
                    refine AW.istore9 (pc' := 136) dX11_race_134 (by decide) rfl ?_
                    refine AW.iconst (pc' := 137) dX11_race_136 ?_
                    refine AW.istore10 (pc' := 139) dX11_race_137 (by decide) rfl ?_
                    have ok : rcOK (h 26 5) (h 10 1) (h 6 3) (h 9) a b c := by omega
                    have q3 := q1 (a.tdiv 10).toNat (by omega)
                    refine AW.weak (lp_X11_race hI (a := a) (b := b) (sd := d) (law := a.tdiv 10) (course := a.tmod 10) (year := b.tdiv 10) (shoe := b.tmod 10) (day := c) (by omega) q3 (by omega) (by omega) (by omega) (by omega) hd (h 1 4).toNat 0 d h (by omega) EX.rf hI hQ1 hQ2 (by omega) (fun h2 r2 => ?_)) (by (repeat' first | exact LSub.e | refine LSub.n ?_ | refine LSub.c ?_ ?_) <;> first | rfl | exact congrArg Sum.inl (by first | rfl | omega | omega) | exact congrArg (fun z : Int => (vL z : AV)) (by first | rfl | omega | omega))
                    have w1 := raceX_ex _ _ _ _ _ r2 1 rfl
                    refine AW.aload_n (pc' := 284) dX11_race_283 rfl ?_
                    refine AW.getR (pc' := 287) dX11_race_284 ly_0 fX11_10 rfl ?_
                    refine AW.getI (pc' := 290) dX11_race_287 ly_1 fX11_181 rfl (fun r287 => ?_)
                    refine AW.iret dX11_race_290 ?_ ?_
                    · refine congrArg (fun z : Int => (some (vI z) : Option AV)) ?_
                      first | (rw [if_pos (by omega)]; done) | (rw [if_neg (by omega), if_pos (by omega)]; done) | (rw [if_neg (by omega), if_neg (by omega), w1])
                    · first | exact Or.inl ⟨by omega, rfl⟩ | exact Or.inr ⟨ok, by omega, r2⟩
                  · refine AW.bipush (pc' := 131) dX11_race_129 (by decide) ?_
                    refine AW.iret dX11_race_131 ?_ ?_
                    · refine congrArg (fun z : Int => (some (vI z) : Option AV)) ?_
                      first | (rw [if_pos (by omega)]; done) | (rw [if_neg (by omega), if_pos (by omega)]; done) | (rw [if_neg (by omega), if_neg (by omega), w1])
                    · first | exact Or.inl ⟨by omega, rfl⟩ | exact Or.inr ⟨ok, by omega, r2⟩
                · refine AW.iconst (pc' := 108) dX11_race_107 ?_
                  refine AW.iret dX11_race_108 ?_ ?_
                  · refine congrArg (fun z : Int => (some (vI z) : Option AV)) ?_
                    first | (rw [if_pos (by omega)]; done) | (rw [if_neg (by omega), if_pos (by omega)]; done) | (rw [if_neg (by omega), if_neg (by omega), w1])
                  · first | exact Or.inl ⟨by omega, rfl⟩ | exact Or.inr ⟨ok, by omega, r2⟩
          · refine AW.iconst (pc' := 68) dX11_race_67 ?_
            refine AW.iret dX11_race_68 ?_ ?_
            · refine congrArg (fun z : Int => (some (vI z) : Option AV)) ?_
              first | (rw [if_pos (by omega)]; done) | (rw [if_neg (by omega), if_pos (by omega)]; done) | (rw [if_neg (by omega), if_neg (by omega), w1])
            · first | exact Or.inl ⟨by omega, rfl⟩ | exact Or.inr ⟨ok, by omega, r2⟩
set_option maxRecDepth 100000 in
set_option maxHeartbeats 4000000 in
theorem c_X11_law {K : KT} {dep : Nat} {h : Hp}  (hd : 52 ≤ dep) (q0 : 0 ≤ h 26 4 ∧ h 26 4 ≤ 120) (q1 : 0 ≤ h 26 5 ∧ h 26 5 ≤ 4) : AMp K yX11_law cX11_law 1 (some .int) dep [vR 0] h (some (vI (if 4 ≤ h 26 5 then -3 else if (lwX h).2 ≠ -1 then -100 - (lwX h).2 else h 26 5))) (fun x => LCx h x) := by
  refine AM.of (own := RX11) (ls := [some (vR 0)]) rfl (by decide +kernel) (by exact Nat.le_of_ble_eq_true rfl) rfl (fun hO => ?_)
  refine AW.aload_n (pc' := 1) dX11_law_0 rfl ?_
  refine AW.getR (pc' := 4) dX11_law_1 ly_0 fX11_51 rfl ?_
  refine AW.invQ0 (pc' := 7) dX11_law_4 mlX11_171 mX5_come ly_26 rfl (c_X5_come (dep := dep - 1) (by first | assumption | omega | (constructor <;> omega) | (simp only [Int.toNat_natCast]; omega) | exact b2_in _) (by first | assumption | omega | (constructor <;> omega) | (simp only [Int.toNat_natCast]; omega) | exact b2_in _) (by first | assumption | omega | (constructor <;> omega) | (simp only [Int.toNat_natCast]; omega) | exact b2_in _)) (fun h4 s4 => ?_)
  refine AW.iret dX11_law_7 ?_ ?_
  · rfl
  · exact s4
