set_option maxRecDepth 100000 in
set_option maxHeartbeats 4000000 in
theorem c_X12_behindA {K : KT} {dep : Nat} {h : Hp} {g : Hp} {base : Nat} {A O C s b : Int} {P T : List Int} (hd : 3 ≤ dep) (ms : MS g base A P T O [s] C h) (qw : WFr (h 57 29) (A, (P, (T, (O, ([s], C)))))) (qb : base ≤ 400) (q3 : inI b) (hb : b = 41) : AMp K yX12_behind cX12_behind 3 (some .int) dep [vR 57, vI b] h (some (vI (-1))) (fun x => MSt g base (A, (P, (T, (O, ([s], C))))) x) := by
  refine AM.of (own := RX12) (ls := [some (vR 57), some (vI b), none]) rfl (by decide +kernel) (by exact Nat.le_of_ble_eq_true rfl) rfl (fun hO => ?_)
  have ms2 := ms
  obtain ⟨a1, a2, a3, a4, a5, a6, a7, a8, -⟩ := ms2
  have e29 : h 57 29 = g 57 29 := a2 29 (Or.inl (by decide))
  have e75 : h 75 = g 75 := a1 75 rfl
  have qw2 := qw
  obtain ⟨w1, w2, w3, w4, w5, w6, w7, w8, w9⟩ := qw2
  simp only at w1 w2 w4 w5 w6 w7 w8 w9
  have cpl := cP_le P
  simp only [List.length_cons] at a7 w7
  obtain ⟨sp1, sp2⟩ := ms.stop
  have sfb := strF_in b
  refine AW.iload_n (pc' := 1) dX12_behind_0 rfl ?_
  refine AW.bipush (pc' := 3) dX12_behind_1 (by decide) ?_
  refine AW.icmp_ne (tgt := 19) (pc' := 6) dX12_behind_3 (by first | assumption | omega | (constructor <;> omega) | (simp only [Int.toNat_natCast]; omega) | exact b2_in _) (by first | assumption | omega | (constructor <;> omega) | (simp only [Int.toNat_natCast]; omega) | exact b2_in _) (fun c3 => ?_) (fun c3 => ?_)
  · omega
  · refine AW.aload_n (pc' := 7) dX12_behind_6 rfl ?_
    refine AW.invV0 (pc' := 10) dX12_behind_7 mlX12_215 mX12_closes ly_57 rfl (c_X12_closes0 (dep := dep - 1) ms qw qb) ?_
    refine AW.if_eq (tgt := 17) (pc' := 13) dX12_behind_10 (by first | assumption | omega | (constructor <;> omega) | (simp only [Int.toNat_natCast]; omega) | exact b2_in _) (fun c10 => ?_) (fun c10 => ?_)
    · refine AW.iconst (pc' := 18) dX12_behind_17 ?_
      refine AW.iret dX12_behind_18 ?_ ?_
      · first | rfl | omega
      · first | exact ms | omega
    · refine AW.iconst (pc' := 14) dX12_behind_13 ?_
      refine AW.goto (tgt := 18) dX12_behind_14 ?_
      refine AW.iret dX12_behind_18 ?_ ?_
      · first | rfl | omega
      · first | exact ms | omega
set_option maxRecDepth 100000 in
set_option maxHeartbeats 4000000 in
theorem c_X12_behindB {K : KT} {dep : Nat} {h : Hp} {g : Hp} {base : Nat} {A O C : Int} {P T S : List Int} {s r b : Int} (hd : 3 ≤ dep) (ms : MS g base A P T O (s :: r :: S) C h) (qw : WFr (h 57 29) (A, (P, (T, (O, ((s :: r :: S), C)))))) (qb : base ≤ 400) (q3 : inI b) (hb : b = 41) : AMp K yX12_behind cX12_behind 3 (some .int) dep [vR 57, vI b] h (some (vI 0)) (fun x => MSt g base (clF A P T O (r :: S) C) x) := by
  refine AM.of (own := RX12) (ls := [some (vR 57), some (vI b), none]) rfl (by decide +kernel) (by exact Nat.le_of_ble_eq_true rfl) rfl (fun hO => ?_)
  have ms2 := ms
  obtain ⟨a1, a2, a3, a4, a5, a6, a7, a8, -⟩ := ms2
  have e29 : h 57 29 = g 57 29 := a2 29 (Or.inl (by decide))
  have e75 : h 75 = g 75 := a1 75 rfl
  have qw2 := qw
  obtain ⟨w1, w2, w3, w4, w5, w6, w7, w8, w9⟩ := qw2
  simp only at w1 w2 w4 w5 w6 w7 w8 w9
  have cpl := cP_le P
  simp only [List.length_cons] at a7 w7
  obtain ⟨sp1, sp2⟩ := ms.stop
  have sfb := strF_in b
  refine AW.iload_n (pc' := 1) dX12_behind_0 rfl ?_
  refine AW.bipush (pc' := 3) dX12_behind_1 (by decide) ?_
  refine AW.icmp_ne (tgt := 19) (pc' := 6) dX12_behind_3 (by first | assumption | omega | (constructor <;> omega) | (simp only [Int.toNat_natCast]; omega) | exact b2_in _) (by first | assumption | omega | (constructor <;> omega) | (simp only [Int.toNat_natCast]; omega) | exact b2_in _) (fun c3 => ?_) (fun c3 => ?_)
  · omega
  · refine AW.aload_n (pc' := 7) dX12_behind_6 rfl ?_
    refine AW.invQ0 (pc' := 10) dX12_behind_7 mlX12_215 mX12_closes ly_57 rfl (c_X12_closes1 (dep := dep - 1) (by omega) ms qw qb) (fun h7 s7 => ?_)
    refine AW.if_eq (tgt := 17) (pc' := 13) dX12_behind_10 (by first | assumption | omega | (constructor <;> omega) | (simp only [Int.toNat_natCast]; omega) | exact b2_in _) (fun c10 => ?_) (fun c10 => ?_)
    · refine AW.iconst (pc' := 18) dX12_behind_17 ?_
      refine AW.iret dX12_behind_18 ?_ ?_
      · first | rfl | omega
      · exact s7
    · refine AW.iconst (pc' := 14) dX12_behind_13 ?_
      refine AW.goto (tgt := 18) dX12_behind_14 ?_
      refine AW.iret dX12_behind_18 ?_ ?_
      · first | rfl | omega
      · exact s7
set_option maxRecDepth 100000 in
set_option maxHeartbeats 4000000 in
theorem c_X12_behindC {K : KT} {dep : Nat} {h : Hp} {g : Hp} {base : Nat} {A O C : Int} {P T S : List Int} {s b : Int} (hd : 3 ≤ dep) (ms : MS g base A P T O (s :: S) C h) (qw : WFr (h 57 29) (A, (P, (T, (O, ((s :: S), C)))))) (qb : base ≤ 400) (q3 : inI b) (hb : b ≠ 41) : AMp K yX12_behind cX12_behind 3 (some .int) dep [vR 57, vI b] h (some (vI (behF A P T O s S C b).1)) (fun x => MSt g base (behF A P T O s S C b).2 x) := by
  refine AM.of (own := RX12) (ls := [some (vR 57), some (vI b), none]) rfl (by decide +kernel) (by exact Nat.le_of_ble_eq_true rfl) rfl (fun hO => ?_)
  have ms2 := ms
  obtain ⟨a1, a2, a3, a4, a5, a6, a7, a8, -⟩ := ms2
  have e29 : h 57 29 = g 57 29 := a2 29 (Or.inl (by decide))
  have e75 : h 75 = g 75 := a1 75 rfl
  have qw2 := qw
  obtain ⟨w1, w2, w3, w4, w5, w6, w7, w8, w9⟩ := qw2
  simp only at w1 w2 w4 w5 w6 w7 w8 w9
  have cpl := cP_le P
  simp only [List.length_cons] at a7 w7
  obtain ⟨sp1, sp2⟩ := ms.stop
  have sfb := strF_in b
  have sp3 : h 79 (h 57 35).toNat = s := by rw [show (h 57 35).toNat = S.length by omega]; exact sp2
  have sn : S ≠ [] ↔ 0 < S.length := List.length_pos_iff.symm
  have si0 := stl_in 0 P T
  have sib := stl_in (strF b) P T
  refine AW.iload_n (pc' := 1) dX12_behind_0 rfl ?_
  refine AW.bipush (pc' := 3) dX12_behind_1 (by decide) ?_
  refine AW.icmp_ne (tgt := 19) (pc' := 6) dX12_behind_3 (by first | assumption | omega | (constructor <;> omega) | (simp only [Int.toNat_natCast]; omega) | exact b2_in _) (by first | assumption | omega | (constructor <;> omega) | (simp only [Int.toNat_natCast]; omega) | exact b2_in _) (fun c3 => ?_) (fun c3 => ?_)
  · refine AW.iload_n (pc' := 20) dX12_behind_19 rfl ?_
    refine AW.bipush (pc' := 22) dX12_behind_20 (by decide) ?_
    refine AW.icmp_eq (tgt := 31) (pc' := 25) dX12_behind_22 (by first | assumption | omega | (constructor <;> omega) | (simp only [Int.toNat_natCast]; omega) | exact b2_in _) (by first | assumption | omega | (constructor <;> omega) | (simp only [Int.toNat_natCast]; omega) | exact b2_in _) (fun c22 => ?_) (fun c22 => ?_)
    · refine AW.aload_n (pc' := 32) dX12_behind_31 rfl ?_
      refine AW.getI (pc' := 35) dX12_behind_32 ly_57 fX12_209 rfl (fun r32 => ?_)
      refine AW.if_gt (tgt := 51) (pc' := 38) dX12_behind_35 (by first | assumption | omega | (constructor <;> omega) | (simp only [Int.toNat_natCast]; omega) | exact b2_in _) (fun c35 => ?_) (fun c35 => ?_)
      · have yq : S ≠ [] ∨ b = 63 ∧ C = 1 := by
          by_cases y : S = []
          · right; rw [y] at sp1; simp only [List.length_nil] at sp1; omega
          · exact Or.inl y
        refine AW.iconst (pc' := 52) dX12_behind_51 ?_
        refine AW.iret dX12_behind_52 ?_ ?_
        · refine congrArg (fun z : Int => (some (vI z) : Option AV)) ?_
          unfold behF
          rw [if_neg (by omega), if_pos (by omega), if_pos yq]
        · unfold behF
          rw [if_neg (by omega), if_pos (by omega), if_pos yq]
          exact ms
      · refine AW.iload_n (pc' := 39) dX12_behind_38 rfl ?_
        refine AW.bipush (pc' := 41) dX12_behind_39 (by decide) ?_
        refine AW.icmp_ne (tgt := 53) (pc' := 44) dX12_behind_41 (by first | assumption | omega | (constructor <;> omega) | (simp only [Int.toNat_natCast]; omega) | exact b2_in _) (by first | assumption | omega | (constructor <;> omega) | (simp only [Int.toNat_natCast]; omega) | exact b2_in _) (fun c41 => ?_) (fun c41 => ?_)
        · have s0 : S = [] := Classical.byContradiction fun y => by
            have := sn.mp y
            omega
          have nq : ¬ (S ≠ [] ∨ b = 63 ∧ C = 1) := fun y => by
            rcases y with y | y
            · exact y s0
            · omega
          subst s0
          refine AW.aload_n (pc' := 54) dX12_behind_53 rfl ?_
          refine AW.iconst (pc' := 55) dX12_behind_54 ?_
          refine AW.invQ1v (pc' := 58) dX12_behind_55 mlX12_212 mX12_settles ly_57 rfl (c_X12_settles (dep := dep - 1) (by omega) ms (by omega) (by omega) (by decide)) (fun h55 s55 => ?_)
          have t3 := s55.2.2.1
          have t4 := s55.2.2.2.1
          refine AW.aload_n (pc' := 59) dX12_behind_58 rfl ?_
          refine AW.iload_n (pc' := 60) dX12_behind_59 rfl ?_
          refine AW.bipush (pc' := 62) dX12_behind_60 (by decide) ?_
          refine AW.icmp_ne (tgt := 71) (pc' := 65) dX12_behind_62 (by first | assumption | omega | (constructor <;> omega) | (simp only [Int.toNat_natCast]; omega) | exact b2_in _) (by first | assumption | omega | (constructor <;> omega) | (simp only [Int.toNat_natCast]; omega) | exact b2_in _) (fun c62 => ?_) (fun c62 => ?_)
          · refine AW.sipush (pc' := 74) dX12_behind_71 (by decide) ?_
            refine AW.invV1v (pc' := 77) dX12_behind_74 mlX12_193 mX12_emits ly_57 rfl (c_X12_emits (dep := dep - 1) (by omega) (by decide)) ?_
            refine AW.aload_n (pc' := 78) dX12_behind_77 rfl ?_
            refine AW.iload_n (pc' := 79) dX12_behind_78 rfl ?_
            refine AW.bipush (pc' := 81) dX12_behind_79 (by decide) ?_
            refine AW.icmp_ne (tgt := 88) (pc' := 84) dX12_behind_81 (by first | assumption | omega | (constructor <;> omega) | (simp only [Int.toNat_natCast]; omega) | exact b2_in _) (by first | assumption | omega | (constructor <;> omega) | (simp only [Int.toNat_natCast]; omega) | exact b2_in _) (fun c81 => ?_) (fun c81 => ?_)
            · refine AW.iconst (pc' := 89) dX12_behind_88 ?_
              refine AW.putZ (pc' := 92) dX12_behind_89 ly_57 pX12_219 rfl (by first | exact Or.inl rfl | exact Or.inr rfl | exact b2_01 _ | assumption) ?_
              refine AW.aload_n (pc' := 93) dX12_behind_92 rfl ?_
              refine AW.getR (pc' := 96) dX12_behind_93 ly_57 fX12_77 rfl ?_
              refine AW.iconst (pc' := 97) dX12_behind_96 ?_
              refine AW.iconst (pc' := 98) dX12_behind_97 ?_
              first | refine AW.iastN (pc' := 99) dX12_behind_98 ly_79 (by first | assumption | omega | (constructor <;> omega) | (simp only [Int.toNat_natCast]; omega) | exact b2_in _) (by decide) (by first | assumption | omega | (constructor <;> omega) | (simp only [Int.toNat_natCast]; omega) | exact b2_in _) ?_ | refine AW.iast (pc' := 99) dX12_behind_98 ly_79 (by first | assumption | omega | (constructor <;> omega) | (simp only [Int.toNat_natCast]; omega) | exact b2_in _) (by first | assumption | omega | (constructor <;> omega) | (simp only [Int.toNat_natCast]; omega) | exact b2_in _) (by decide) (by first | assumption | omega | (constructor <;> omega) | (simp only [Int.toNat_natCast]; omega) | exact b2_in _) ?_
              refine AW.aload_n (pc' := 100) dX12_behind_99 rfl ?_
              refine AW.dup (pc' := 101) dX12_behind_100 rfl ?_
              refine AW.getI (pc' := 104) dX12_behind_101 ly_57 fX12_200 rfl (fun r101 => ?_)
              try simp only [hset_app, Nat.reduceEqDiff, false_and, and_false, true_and, and_true, reduceIte] at r101 ⊢
              refine AW.iconst (pc' := 105) dX12_behind_104 ?_
              refine AW.iadd (pc' := 106) dX12_behind_105 ?_
              refine AW.putI (pc' := 109) dX12_behind_106 ly_57 pX12_200 rfl (by first | assumption | omega | (constructor <;> omega) | (simp only [Int.toNat_natCast]; omega) | exact b2_in _) ?_
              refine AW.iconst (pc' := 110) dX12_behind_109 ?_
              refine AW.iret dX12_behind_110 ?_ ?_
              · refine congrArg (fun z : Int => (some (vI z) : Option AV)) ?_
                unfold behF
                rw [if_neg (by omega), if_pos (by omega), if_neg nq]
              · unfold behF
                rw [if_neg (by omega), if_pos (by omega), if_neg nq]
                first
                | (exfalso; omega)
                | (have e63 : b = 63 := by omega
                   subst e63
                   simp only [Int.reduceEq, reduceIte]
                   rw [← t3]
                   exact (((s55.emit 900).cnd 1).sset 0 rfl).at _)
                | (have e59 : b = 59 := by omega
                   subst e59
                   simp only [Int.reduceEq, reduceIte]
                   rw [← t3]
                   exact (((s55.emit 901).cnd 0).sset 0 rfl).at _)
            · refine AW.iconst (pc' := 85) dX12_behind_84 ?_
              refine AW.goto (tgt := 89) dX12_behind_85 ?_
              refine AW.putZ (pc' := 92) dX12_behind_89 ly_57 pX12_219 rfl (by first | exact Or.inl rfl | exact Or.inr rfl | exact b2_01 _ | assumption) ?_
              refine AW.aload_n (pc' := 93) dX12_behind_92 rfl ?_
              refine AW.getR (pc' := 96) dX12_behind_93 ly_57 fX12_77 rfl ?_
              refine AW.iconst (pc' := 97) dX12_behind_96 ?_
              refine AW.iconst (pc' := 98) dX12_behind_97 ?_
              first | refine AW.iastN (pc' := 99) dX12_behind_98 ly_79 (by first | assumption | omega | (constructor <;> omega) | (simp only [Int.toNat_natCast]; omega) | exact b2_in _) (by decide) (by first | assumption | omega | (constructor <;> omega) | (simp only [Int.toNat_natCast]; omega) | exact b2_in _) ?_ | refine AW.iast (pc' := 99) dX12_behind_98 ly_79 (by first | assumption | omega | (constructor <;> omega) | (simp only [Int.toNat_natCast]; omega) | exact b2_in _) (by first | assumption | omega | (constructor <;> omega) | (simp only [Int.toNat_natCast]; omega) | exact b2_in _) (by decide) (by first | assumption | omega | (constructor <;> omega) | (simp only [Int.toNat_natCast]; omega) | exact b2_in _) ?_
              refine AW.aload_n (pc' := 100) dX12_behind_99 rfl ?_
              refine AW.dup (pc' := 101) dX12_behind_100 rfl ?_
              refine AW.getI (pc' := 104) dX12_behind_101 ly_57 fX12_200 rfl (fun r101 => ?_)
              try simp only [hset_app, Nat.reduceEqDiff, false_and, and_false, true_and, and_true, reduceIte] at r101 ⊢
              refine AW.iconst (pc' := 105) dX12_behind_104 ?_
              refine AW.iadd (pc' := 106) dX12_behind_105 ?_
              refine AW.putI (pc' := 109) dX12_behind_106 ly_57 pX12_200 rfl (by first | assumption | omega | (constructor <;> omega) | (simp only [Int.toNat_natCast]; omega) | exact b2_in _) ?_
              refine AW.iconst (pc' := 110) dX12_behind_109 ?_
              refine AW.iret dX12_behind_110 ?_ ?_
              · refine congrArg (fun z : Int => (some (vI z) : Option AV)) ?_
                unfold behF
                rw [if_neg (by omega), if_pos (by omega), if_neg nq]
              · unfold behF
                rw [if_neg (by omega), if_pos (by omega), if_neg nq]
                first
                | (exfalso; omega)
                | (have e63 : b = 63 := by omega
                   subst e63
                   simp only [Int.reduceEq, reduceIte]
                   rw [← t3]
                   exact (((s55.emit 900).cnd 1).sset 0 rfl).at _)
                | (have e59 : b = 59 := by omega
                   subst e59
                   simp only [Int.reduceEq, reduceIte]
                   rw [← t3]
                   exact (((s55.emit 901).cnd 0).sset 0 rfl).at _)
          · refine AW.sipush (pc' := 68) dX12_behind_65 (by decide) ?_
            refine AW.goto (tgt := 74) dX12_behind_68 ?_
            refine AW.invV1v (pc' := 77) dX12_behind_74 mlX12_193 mX12_emits ly_57 rfl (c_X12_emits (dep := dep - 1) (by omega) (by decide)) ?_
            refine AW.aload_n (pc' := 78) dX12_behind_77 rfl ?_
            refine AW.iload_n (pc' := 79) dX12_behind_78 rfl ?_
            refine AW.bipush (pc' := 81) dX12_behind_79 (by decide) ?_
            refine AW.icmp_ne (tgt := 88) (pc' := 84) dX12_behind_81 (by first | assumption | omega | (constructor <;> omega) | (simp only [Int.toNat_natCast]; omega) | exact b2_in _) (by first | assumption | omega | (constructor <;> omega) | (simp only [Int.toNat_natCast]; omega) | exact b2_in _) (fun c81 => ?_) (fun c81 => ?_)
            · refine AW.iconst (pc' := 89) dX12_behind_88 ?_
              refine AW.putZ (pc' := 92) dX12_behind_89 ly_57 pX12_219 rfl (by first | exact Or.inl rfl | exact Or.inr rfl | exact b2_01 _ | assumption) ?_
              refine AW.aload_n (pc' := 93) dX12_behind_92 rfl ?_
              refine AW.getR (pc' := 96) dX12_behind_93 ly_57 fX12_77 rfl ?_
              refine AW.iconst (pc' := 97) dX12_behind_96 ?_
              refine AW.iconst (pc' := 98) dX12_behind_97 ?_
              first | refine AW.iastN (pc' := 99) dX12_behind_98 ly_79 (by first | assumption | omega | (constructor <;> omega) | (simp only [Int.toNat_natCast]; omega) | exact b2_in _) (by decide) (by first | assumption | omega | (constructor <;> omega) | (simp only [Int.toNat_natCast]; omega) | exact b2_in _) ?_ | refine AW.iast (pc' := 99) dX12_behind_98 ly_79 (by first | assumption | omega | (constructor <;> omega) | (simp only [Int.toNat_natCast]; omega) | exact b2_in _) (by first | assumption | omega | (constructor <;> omega) | (simp only [Int.toNat_natCast]; omega) | exact b2_in _) (by decide) (by first | assumption | omega | (constructor <;> omega) | (simp only [Int.toNat_natCast]; omega) | exact b2_in _) ?_
              refine AW.aload_n (pc' := 100) dX12_behind_99 rfl ?_
              refine AW.dup (pc' := 101) dX12_behind_100 rfl ?_
              refine AW.getI (pc' := 104) dX12_behind_101 ly_57 fX12_200 rfl (fun r101 => ?_)
              try simp only [hset_app, Nat.reduceEqDiff, false_and, and_false, true_and, and_true, reduceIte] at r101 ⊢
              refine AW.iconst (pc' := 105) dX12_behind_104 ?_
              refine AW.iadd (pc' := 106) dX12_behind_105 ?_
              refine AW.putI (pc' := 109) dX12_behind_106 ly_57 pX12_200 rfl (by first | assumption | omega | (constructor <;> omega) | (simp only [Int.toNat_natCast]; omega) | exact b2_in _) ?_
              refine AW.iconst (pc' := 110) dX12_behind_109 ?_
              refine AW.iret dX12_behind_110 ?_ ?_
              · refine congrArg (fun z : Int => (some (vI z) : Option AV)) ?_
                unfold behF
                rw [if_neg (by omega), if_pos (by omega), if_neg nq]
              · unfold behF
                rw [if_neg (by omega), if_pos (by omega), if_neg nq]
                first
                | (exfalso; omega)
                | (have e63 : b = 63 := by omega
                   subst e63
                   simp only [Int.reduceEq, reduceIte]
                   rw [← t3]
                   exact (((s55.emit 900).cnd 1).sset 0 rfl).at _)
                | (have e59 : b = 59 := by omega
                   subst e59
                   simp only [Int.reduceEq, reduceIte]
                   rw [← t3]
                   exact (((s55.emit 901).cnd 0).sset 0 rfl).at _)
            · refine AW.iconst (pc' := 85) dX12_behind_84 ?_
              refine AW.goto (tgt := 89) dX12_behind_85 ?_
              refine AW.putZ (pc' := 92) dX12_behind_89 ly_57 pX12_219 rfl (by first | exact Or.inl rfl | exact Or.inr rfl | exact b2_01 _ | assumption) ?_
              refine AW.aload_n (pc' := 93) dX12_behind_92 rfl ?_
              refine AW.getR (pc' := 96) dX12_behind_93 ly_57 fX12_77 rfl ?_
              refine AW.iconst (pc' := 97) dX12_behind_96 ?_
              refine AW.iconst (pc' := 98) dX12_behind_97 ?_
              first | refine AW.iastN (pc' := 99) dX12_behind_98 ly_79 (by first | assumption | omega | (constructor <;> omega) | (simp only [Int.toNat_natCast]; omega) | exact b2_in _) (by decide) (by first | assumption | omega | (constructor <;> omega) | (simp only [Int.toNat_natCast]; omega) | exact b2_in _) ?_ | refine AW.iast (pc' := 99) dX12_behind_98 ly_79 (by first | assumption | omega | (constructor <;> omega) | (simp only [Int.toNat_natCast]; omega) | exact b2_in _) (by first | assumption | omega | (constructor <;> omega) | (simp only [Int.toNat_natCast]; omega) | exact b2_in _) (by decide) (by first | assumption | omega | (constructor <;> omega) | (simp only [Int.toNat_natCast]; omega) | exact b2_in _) ?_
              refine AW.aload_n (pc' := 100) dX12_behind_99 rfl ?_
              refine AW.dup (pc' := 101) dX12_behind_100 rfl ?_
              refine AW.getI (pc' := 104) dX12_behind_101 ly_57 fX12_200 rfl (fun r101 => ?_)
              try simp only [hset_app, Nat.reduceEqDiff, false_and, and_false, true_and, and_true, reduceIte] at r101 ⊢
              refine AW.iconst (pc' := 105) dX12_behind_104 ?_
              refine AW.iadd (pc' := 106) dX12_behind_105 ?_
              refine AW.putI (pc' := 109) dX12_behind_106 ly_57 pX12_200 rfl (by first | assumption | omega | (constructor <;> omega) | (simp only [Int.toNat_natCast]; omega) | exact b2_in _) ?_
              refine AW.iconst (pc' := 110) dX12_behind_109 ?_
              refine AW.iret dX12_behind_110 ?_ ?_
              · refine congrArg (fun z : Int => (some (vI z) : Option AV)) ?_
                unfold behF
                rw [if_neg (by omega), if_pos (by omega), if_neg nq]
              · unfold behF
                rw [if_neg (by omega), if_pos (by omega), if_neg nq]
                first
                | (exfalso; omega)
                | (have e63 : b = 63 := by omega
                   subst e63
                   simp only [Int.reduceEq, reduceIte]
                   rw [← t3]
                   exact (((s55.emit 900).cnd 1).sset 0 rfl).at _)
                | (have e59 : b = 59 := by omega
                   subst e59
                   simp only [Int.reduceEq, reduceIte]
                   rw [← t3]
                   exact (((s55.emit 901).cnd 0).sset 0 rfl).at _)
        · refine AW.aload_n (pc' := 45) dX12_behind_44 rfl ?_
          refine AW.getI (pc' := 48) dX12_behind_45 ly_57 fX12_219 rfl (fun r45 => ?_)
          refine AW.if_eq (tgt := 53) (pc' := 51) dX12_behind_48 (by first | assumption | omega | (constructor <;> omega) | (simp only [Int.toNat_natCast]; omega) | exact b2_in _) (fun c48 => ?_) (fun c48 => ?_)
          · have s0 : S = [] := Classical.byContradiction fun y => by
              have := sn.mp y
              omega
            have nq : ¬ (S ≠ [] ∨ b = 63 ∧ C = 1) := fun y => by
              rcases y with y | y
              · exact y s0
              · omega
            subst s0
            refine AW.aload_n (pc' := 54) dX12_behind_53 rfl ?_
            refine AW.iconst (pc' := 55) dX12_behind_54 ?_
            refine AW.invQ1v (pc' := 58) dX12_behind_55 mlX12_212 mX12_settles ly_57 rfl (c_X12_settles (dep := dep - 1) (by omega) ms (by omega) (by omega) (by decide)) (fun h55 s55 => ?_)
            have t3 := s55.2.2.1
            have t4 := s55.2.2.2.1
            refine AW.aload_n (pc' := 59) dX12_behind_58 rfl ?_
            refine AW.iload_n (pc' := 60) dX12_behind_59 rfl ?_
            refine AW.bipush (pc' := 62) dX12_behind_60 (by decide) ?_
            refine AW.icmp_ne (tgt := 71) (pc' := 65) dX12_behind_62 (by first | assumption | omega | (constructor <;> omega) | (simp only [Int.toNat_natCast]; omega) | exact b2_in _) (by first | assumption | omega | (constructor <;> omega) | (simp only [Int.toNat_natCast]; omega) | exact b2_in _) (fun c62 => ?_) (fun c62 => ?_)
            · refine AW.sipush (pc' := 74) dX12_behind_71 (by decide) ?_
              refine AW.invV1v (pc' := 77) dX12_behind_74 mlX12_193 mX12_emits ly_57 rfl (c_X12_emits (dep := dep - 1) (by omega) (by decide)) ?_
              refine AW.aload_n (pc' := 78) dX12_behind_77 rfl ?_
              refine AW.iload_n (pc' := 79) dX12_behind_78 rfl ?_
              refine AW.bipush (pc' := 81) dX12_behind_79 (by decide) ?_
              refine AW.icmp_ne (tgt := 88) (pc' := 84) dX12_behind_81 (by first | assumption | omega | (constructor <;> omega) | (simp only [Int.toNat_natCast]; omega) | exact b2_in _) (by first | assumption | omega | (constructor <;> omega) | (simp only [Int.toNat_natCast]; omega) | exact b2_in _) (fun c81 => ?_) (fun c81 => ?_)
              · refine AW.iconst (pc' := 89) dX12_behind_88 ?_
                refine AW.putZ (pc' := 92) dX12_behind_89 ly_57 pX12_219 rfl (by first | exact Or.inl rfl | exact Or.inr rfl | exact b2_01 _ | assumption) ?_
                refine AW.aload_n (pc' := 93) dX12_behind_92 rfl ?_
                refine AW.getR (pc' := 96) dX12_behind_93 ly_57 fX12_77 rfl ?_
                refine AW.iconst (pc' := 97) dX12_behind_96 ?_
                refine AW.iconst (pc' := 98) dX12_behind_97 ?_
                first | refine AW.iastN (pc' := 99) dX12_behind_98 ly_79 (by first | assumption | omega | (constructor <;> omega) | (simp only [Int.toNat_natCast]; omega) | exact b2_in _) (by decide) (by first | assumption | omega | (constructor <;> omega) | (simp only [Int.toNat_natCast]; omega) | exact b2_in _) ?_ | refine AW.iast (pc' := 99) dX12_behind_98 ly_79 (by first | assumption | omega | (constructor <;> omega) | (simp only [Int.toNat_natCast]; omega) | exact b2_in _) (by first | assumption | omega | (constructor <;> omega) | (simp only [Int.toNat_natCast]; omega) | exact b2_in _) (by decide) (by first | assumption | omega | (constructor <;> omega) | (simp only [Int.toNat_natCast]; omega) | exact b2_in _) ?_
                refine AW.aload_n (pc' := 100) dX12_behind_99 rfl ?_
                refine AW.dup (pc' := 101) dX12_behind_100 rfl ?_
                refine AW.getI (pc' := 104) dX12_behind_101 ly_57 fX12_200 rfl (fun r101 => ?_)
                try simp only [hset_app, Nat.reduceEqDiff, false_and, and_false, true_and, and_true, reduceIte] at r101 ⊢
                refine AW.iconst (pc' := 105) dX12_behind_104 ?_
                refine AW.iadd (pc' := 106) dX12_behind_105 ?_
                refine AW.putI (pc' := 109) dX12_behind_106 ly_57 pX12_200 rfl (by first | assumption | omega | (constructor <;> omega) | (simp only [Int.toNat_natCast]; omega) | exact b2_in _) ?_
                refine AW.iconst (pc' := 110) dX12_behind_109 ?_
                refine AW.iret dX12_behind_110 ?_ ?_
                · refine congrArg (fun z : Int => (some (vI z) : Option AV)) ?_
                  unfold behF
                  rw [if_neg (by omega), if_pos (by omega), if_neg nq]
                · unfold behF
                  rw [if_neg (by omega), if_pos (by omega), if_neg nq]
                  first
                  | (exfalso; omega)
                  | (have e63 : b = 63 := by omega
                     subst e63
                     simp only [Int.reduceEq, reduceIte]
                     rw [← t3]
                     exact (((s55.emit 900).cnd 1).sset 0 rfl).at _)
                  | (have e59 : b = 59 := by omega
                     subst e59
                     simp only [Int.reduceEq, reduceIte]
                     rw [← t3]
                     exact (((s55.emit 901).cnd 0).sset 0 rfl).at _)
              · refine AW.iconst (pc' := 85) dX12_behind_84 ?_
                refine AW.goto (tgt := 89) dX12_behind_85 ?_
                refine AW.putZ (pc' := 92) dX12_behind_89 ly_57 pX12_219 rfl (by first | exact Or.inl rfl | exact Or.inr rfl | exact b2_01 _ | assumption) ?_
                refine AW.aload_n (pc' := 93) dX12_behind_92 rfl ?_
                refine AW.getR (pc' := 96) dX12_behind_93 ly_57 fX12_77 rfl ?_
                refine AW.iconst (pc' := 97) dX12_behind_96 ?_
                refine AW.iconst (pc' := 98) dX12_behind_97 ?_
                first | refine AW.iastN (pc' := 99) dX12_behind_98 ly_79 (by first | assumption | omega | (constructor <;> omega) | (simp only [Int.toNat_natCast]; omega) | exact b2_in _) (by decide) (by first | assumption | omega | (constructor <;> omega) | (simp only [Int.toNat_natCast]; omega) | exact b2_in _) ?_ | refine AW.iast (pc' := 99) dX12_behind_98 ly_79 (by first | assumption | omega | (constructor <;> omega) | (simp only [Int.toNat_natCast]; omega) | exact b2_in _) (by first | assumption | omega | (constructor <;> omega) | (simp only [Int.toNat_natCast]; omega) | exact b2_in _) (by decide) (by first | assumption | omega | (constructor <;> omega) | (simp only [Int.toNat_natCast]; omega) | exact b2_in _) ?_
                refine AW.aload_n (pc' := 100) dX12_behind_99 rfl ?_
                refine AW.dup (pc' := 101) dX12_behind_100 rfl ?_
                refine AW.getI (pc' := 104) dX12_behind_101 ly_57 fX12_200 rfl (fun r101 => ?_)
                try simp only [hset_app, Nat.reduceEqDiff, false_and, and_false, true_and, and_true, reduceIte] at r101 ⊢
                refine AW.iconst (pc' := 105) dX12_behind_104 ?_
                refine AW.iadd (pc' := 106) dX12_behind_105 ?_
                refine AW.putI (pc' := 109) dX12_behind_106 ly_57 pX12_200 rfl (by first | assumption | omega | (constructor <;> omega) | (simp only [Int.toNat_natCast]; omega) | exact b2_in _) ?_
                refine AW.iconst (pc' := 110) dX12_behind_109 ?_
                refine AW.iret dX12_behind_110 ?_ ?_
                · refine congrArg (fun z : Int => (some (vI z) : Option AV)) ?_
                  unfold behF
                  rw [if_neg (by omega), if_pos (by omega), if_neg nq]
                · unfold behF
                  rw [if_neg (by omega), if_pos (by omega), if_neg nq]
                  first
                  | (exfalso; omega)
                  | (have e63 : b = 63 := by omega
                     subst e63
                     simp only [Int.reduceEq, reduceIte]
                     rw [← t3]
                     exact (((s55.emit 900).cnd 1).sset 0 rfl).at _)
                  | (have e59 : b = 59 := by omega
                     subst e59
                     simp only [Int.reduceEq, reduceIte]
                     rw [← t3]
                     exact (((s55.emit 901).cnd 0).sset 0 rfl).at _)
            · refine AW.sipush (pc' := 68) dX12_behind_65 (by decide) ?_
              refine AW.goto (tgt := 74) dX12_behind_68 ?_
              refine AW.invV1v (pc' := 77) dX12_behind_74 mlX12_193 mX12_emits ly_57 rfl (c_X12_emits (dep := dep - 1) (by omega) (by decide)) ?_
              refine AW.aload_n (pc' := 78) dX12_behind_77 rfl ?_
              refine AW.iload_n (pc' := 79) dX12_behind_78 rfl ?_
              refine AW.bipush (pc' := 81) dX12_behind_79 (by decide) ?_
              refine AW.icmp_ne (tgt := 88) (pc' := 84) dX12_behind_81 (by first | assumption | omega | (constructor <;> omega) | (simp only [Int.toNat_natCast]; omega) | exact b2_in _) (by first | assumption | omega | (constructor <;> omega) | (simp only [Int.toNat_natCast]; omega) | exact b2_in _) (fun c81 => ?_) (fun c81 => ?_)
              · refine AW.iconst (pc' := 89) dX12_behind_88 ?_
                refine AW.putZ (pc' := 92) dX12_behind_89 ly_57 pX12_219 rfl (by first | exact Or.inl rfl | exact Or.inr rfl | exact b2_01 _ | assumption) ?_
                refine AW.aload_n (pc' := 93) dX12_behind_92 rfl ?_
                refine AW.getR (pc' := 96) dX12_behind_93 ly_57 fX12_77 rfl ?_
                refine AW.iconst (pc' := 97) dX12_behind_96 ?_
                refine AW.iconst (pc' := 98) dX12_behind_97 ?_
                first | refine AW.iastN (pc' := 99) dX12_behind_98 ly_79 (by first | assumption | omega | (constructor <;> omega) | (simp only [Int.toNat_natCast]; omega) | exact b2_in _) (by decide) (by first | assumption | omega | (constructor <;> omega) | (simp only [Int.toNat_natCast]; omega) | exact b2_in _) ?_ | refine AW.iast (pc' := 99) dX12_behind_98 ly_79 (by first | assumption | omega | (constructor <;> omega) | (simp only [Int.toNat_natCast]; omega) | exact b2_in _) (by first | assumption | omega | (constructor <;> omega) | (simp only [Int.toNat_natCast]; omega) | exact b2_in _) (by decide) (by first | assumption | omega | (constructor <;> omega) | (simp only [Int.toNat_natCast]; omega) | exact b2_in _) ?_
                refine AW.aload_n (pc' := 100) dX12_behind_99 rfl ?_
                refine AW.dup (pc' := 101) dX12_behind_100 rfl ?_
                refine AW.getI (pc' := 104) dX12_behind_101 ly_57 fX12_200 rfl (fun r101 => ?_)
                try simp only [hset_app, Nat.reduceEqDiff, false_and, and_false, true_and, and_true, reduceIte] at r101 ⊢
                refine AW.iconst (pc' := 105) dX12_behind_104 ?_
                refine AW.iadd (pc' := 106) dX12_behind_105 ?_
                refine AW.putI (pc' := 109) dX12_behind_106 ly_57 pX12_200 rfl (by first | assumption | omega | (constructor <;> omega) | (simp only [Int.toNat_natCast]; omega) | exact b2_in _) ?_
                refine AW.iconst (pc' := 110) dX12_behind_109 ?_
                refine AW.iret dX12_behind_110 ?_ ?_
                · refine congrArg (fun z : Int => (some (vI z) : Option AV)) ?_
                  unfold behF
                  rw [if_neg (by omega), if_pos (by omega), if_neg nq]
                · unfold behF
                  rw [if_neg (by omega), if_pos (by omega), if_neg nq]
                  first
                  | (exfalso; omega)
                  | (have e63 : b = 63 := by omega
                     subst e63
                     simp only [Int.reduceEq, reduceIte]
                     rw [← t3]
                     exact (((s55.emit 900).cnd 1).sset 0 rfl).at _)
                  | (have e59 : b = 59 := by omega
                     subst e59
                     simp only [Int.reduceEq, reduceIte]
                     rw [← t3]
                     exact (((s55.emit 901).cnd 0).sset 0 rfl).at _)
              · refine AW.iconst (pc' := 85) dX12_behind_84 ?_
                refine AW.goto (tgt := 89) dX12_behind_85 ?_
                refine AW.putZ (pc' := 92) dX12_behind_89 ly_57 pX12_219 rfl (by first | exact Or.inl rfl | exact Or.inr rfl | exact b2_01 _ | assumption) ?_
                refine AW.aload_n (pc' := 93) dX12_behind_92 rfl ?_
                refine AW.getR (pc' := 96) dX12_behind_93 ly_57 fX12_77 rfl ?_
                refine AW.iconst (pc' := 97) dX12_behind_96 ?_
                refine AW.iconst (pc' := 98) dX12_behind_97 ?_
                first | refine AW.iastN (pc' := 99) dX12_behind_98 ly_79 (by first | assumption | omega | (constructor <;> omega) | (simp only [Int.toNat_natCast]; omega) | exact b2_in _) (by decide) (by first | assumption | omega | (constructor <;> omega) | (simp only [Int.toNat_natCast]; omega) | exact b2_in _) ?_ | refine AW.iast (pc' := 99) dX12_behind_98 ly_79 (by first | assumption | omega | (constructor <;> omega) | (simp only [Int.toNat_natCast]; omega) | exact b2_in _) (by first | assumption | omega | (constructor <;> omega) | (simp only [Int.toNat_natCast]; omega) | exact b2_in _) (by decide) (by first | assumption | omega | (constructor <;> omega) | (simp only [Int.toNat_natCast]; omega) | exact b2_in _) ?_
                refine AW.aload_n (pc' := 100) dX12_behind_99 rfl ?_
                refine AW.dup (pc' := 101) dX12_behind_100 rfl ?_
                refine AW.getI (pc' := 104) dX12_behind_101 ly_57 fX12_200 rfl (fun r101 => ?_)
                try simp only [hset_app, Nat.reduceEqDiff, false_and, and_false, true_and, and_true, reduceIte] at r101 ⊢
                refine AW.iconst (pc' := 105) dX12_behind_104 ?_
                refine AW.iadd (pc' := 106) dX12_behind_105 ?_
                refine AW.putI (pc' := 109) dX12_behind_106 ly_57 pX12_200 rfl (by first | assumption | omega | (constructor <;> omega) | (simp only [Int.toNat_natCast]; omega) | exact b2_in _) ?_
                refine AW.iconst (pc' := 110) dX12_behind_109 ?_
                refine AW.iret dX12_behind_110 ?_ ?_
                · refine congrArg (fun z : Int => (some (vI z) : Option AV)) ?_
                  unfold behF
                  rw [if_neg (by omega), if_pos (by omega), if_neg nq]
                · unfold behF
                  rw [if_neg (by omega), if_pos (by omega), if_neg nq]
                  first
                  | (exfalso; omega)
                  | (have e63 : b = 63 := by omega
                     subst e63
                     simp only [Int.reduceEq, reduceIte]
                     rw [← t3]
                     exact (((s55.emit 900).cnd 1).sset 0 rfl).at _)
                  | (have e59 : b = 59 := by omega
                     subst e59
                     simp only [Int.reduceEq, reduceIte]
                     rw [← t3]
                     exact (((s55.emit 901).cnd 0).sset 0 rfl).at _)
          · have yq : S ≠ [] ∨ b = 63 ∧ C = 1 := by
              by_cases y : S = []
              · right; rw [y] at sp1; simp only [List.length_nil] at sp1; omega
              · exact Or.inl y
            refine AW.iconst (pc' := 52) dX12_behind_51 ?_
            refine AW.iret dX12_behind_52 ?_ ?_
            · refine congrArg (fun z : Int => (some (vI z) : Option AV)) ?_
              unfold behF
              rw [if_neg (by omega), if_pos (by omega), if_pos yq]
            · unfold behF
              rw [if_neg (by omega), if_pos (by omega), if_pos yq]
              exact ms
    · refine AW.iload_n (pc' := 26) dX12_behind_25 rfl ?_
      refine AW.bipush (pc' := 28) dX12_behind_26 (by decide) ?_
      refine AW.icmp_ne (tgt := 111) (pc' := 31) dX12_behind_28 (by first | assumption | omega | (constructor <;> omega) | (simp only [Int.toNat_natCast]; omega) | exact b2_in _) (by first | assumption | omega | (constructor <;> omega) | (simp only [Int.toNat_natCast]; omega) | exact b2_in _) (fun c28 => ?_) (fun c28 => ?_)
      · refine AW.iload_n (pc' := 112) dX12_behind_111 rfl ?_
        refine AW.invS1 (pc' := 115) dX12_behind_112 mlX12_190 mX12_strength (c_X12_strength (dep := dep - 1) (by first | assumption | omega | (constructor <;> omega) | (simp only [Int.toNat_natCast]; omega) | exact b2_in _)) ?_
        refine AW.istore2n (pc' := 116) dX12_behind_115 (by decide) rfl ?_
        refine AW.iload_n (pc' := 117) dX12_behind_116 rfl ?_
        refine AW.if_eq (tgt := 138) (pc' := 120) dX12_behind_117 (by first | assumption | omega | (constructor <;> omega) | (simp only [Int.toNat_natCast]; omega) | exact b2_in _) (fun c117 => ?_) (fun c117 => ?_)
        · refine AW.iconst (pc' := 139) dX12_behind_138 ?_
          refine AW.iret dX12_behind_139 ?_ ?_
          · refine congrArg (fun z : Int => (some (vI z) : Option AV)) ?_
            unfold behF
            rw [if_neg (by omega), if_neg (by omega), if_pos (by omega)]
          · unfold behF
            rw [if_neg (by omega), if_neg (by omega), if_pos (by omega)]
            exact ms
        · refine AW.iload_n (pc' := 121) dX12_behind_120 rfl ?_
          refine AW.iconst (pc' := 122) dX12_behind_121 ?_
          refine AW.icmp_ne (tgt := 140) (pc' := 125) dX12_behind_122 (by first | assumption | omega | (constructor <;> omega) | (simp only [Int.toNat_natCast]; omega) | exact b2_in _) (by first | assumption | omega | (constructor <;> omega) | (simp only [Int.toNat_natCast]; omega) | exact b2_in _) (fun c122 => ?_) (fun c122 => ?_)
          · refine AW.aload_n (pc' := 141) dX12_behind_140 rfl ?_
            refine AW.iload_n (pc' := 142) dX12_behind_141 rfl ?_
            refine AW.invQ1v (pc' := 145) dX12_behind_142 mlX12_212 mX12_settles ly_57 rfl (c_X12_settles (dep := dep - 1) (by omega) ms (by omega) (by omega) (by constructor <;> omega)) (fun h142 s142 => ?_)
            have t3 := s142.2.2.1
            have t5 := s142.2.2.2.2.1
            have t35 := s142.stop.1
            have hi : (h142 57 35).toNat = S.length := by omega
            refine AW.iload_n (pc' := 146) dX12_behind_145 rfl ?_
            refine AW.iconst (pc' := 147) dX12_behind_146 ?_
            refine AW.icmp_ge (tgt := 160) (pc' := 150) dX12_behind_147 (by first | assumption | omega | (constructor <;> omega) | (simp only [Int.toNat_natCast]; omega) | exact b2_in _) (by first | assumption | omega | (constructor <;> omega) | (simp only [Int.toNat_natCast]; omega) | exact b2_in _) (fun c147 => ?_) (fun c147 => ?_)
            · refine AW.iload_n (pc' := 161) dX12_behind_160 rfl ?_
              refine AW.iconst (pc' := 162) dX12_behind_161 ?_
              refine AW.icmp_ne (tgt := 175) (pc' := 165) dX12_behind_162 (by first | assumption | omega | (constructor <;> omega) | (simp only [Int.toNat_natCast]; omega) | exact b2_in _) (by first | assumption | omega | (constructor <;> omega) | (simp only [Int.toNat_natCast]; omega) | exact b2_in _) (fun c162 => ?_) (fun c162 => ?_)
              · refine AW.aload_n (pc' := 176) dX12_behind_175 rfl ?_
                refine AW.getR (pc' := 179) dX12_behind_176 ly_57 fX12_74 rfl ?_
                refine AW.aload_n (pc' := 180) dX12_behind_179 rfl ?_
                refine AW.getI (pc' := 183) dX12_behind_180 ly_57 fX12_187 rfl (fun r180 => ?_)
                refine AW.iload_n (pc' := 184) dX12_behind_183 rfl ?_
                first | refine AW.iastN (pc' := 185) dX12_behind_184 ly_78 (by first | assumption | omega | (constructor <;> omega) | (simp only [Int.toNat_natCast]; omega) | exact b2_in _) (by decide) (by first | assumption | omega | (constructor <;> omega) | (simp only [Int.toNat_natCast]; omega) | exact b2_in _) ?_ | refine AW.iast (pc' := 185) dX12_behind_184 ly_78 (by first | assumption | omega | (constructor <;> omega) | (simp only [Int.toNat_natCast]; omega) | exact b2_in _) (by first | assumption | omega | (constructor <;> omega) | (simp only [Int.toNat_natCast]; omega) | exact b2_in _) (by decide) (by first | assumption | omega | (constructor <;> omega) | (simp only [Int.toNat_natCast]; omega) | exact b2_in _) ?_
                refine AW.aload_n (pc' := 186) dX12_behind_185 rfl ?_
                refine AW.dup (pc' := 187) dX12_behind_186 rfl ?_
                refine AW.getI (pc' := 190) dX12_behind_187 ly_57 fX12_187 rfl (fun r187 => ?_)
                try simp only [hset_app, Nat.reduceEqDiff, false_and, and_false, true_and, and_true, reduceIte] at r187 ⊢
                refine AW.iconst (pc' := 191) dX12_behind_190 ?_
                refine AW.iadd (pc' := 192) dX12_behind_191 ?_
                refine AW.putI (pc' := 195) dX12_behind_192 ly_57 pX12_187 rfl (by first | assumption | omega | (constructor <;> omega) | (simp only [Int.toNat_natCast]; omega) | exact b2_in _) ?_
                refine AW.aload_n (pc' := 196) dX12_behind_195 rfl ?_
                refine AW.dup (pc' := 197) dX12_behind_196 rfl ?_
                refine AW.getI (pc' := 200) dX12_behind_197 ly_57 fX12_200 rfl (fun r197 => ?_)
                try simp only [hset_app, Nat.reduceEqDiff, false_and, and_false, true_and, and_true, reduceIte] at r197 ⊢
                refine AW.iconst (pc' := 201) dX12_behind_200 ?_
                refine AW.iadd (pc' := 202) dX12_behind_201 ?_
                refine AW.putI (pc' := 205) dX12_behind_202 ly_57 pX12_200 rfl (by first | assumption | omega | (constructor <;> omega) | (simp only [Int.toNat_natCast]; omega) | exact b2_in _) ?_
                refine AW.iconst (pc' := 206) dX12_behind_205 ?_
                refine AW.iret dX12_behind_206 ?_ ?_
                · refine congrArg (fun z : Int => (some (vI z) : Option AV)) ?_
                  unfold behF
                  rw [if_neg (by omega), if_neg (by omega), if_neg (by omega)]
                · unfold behF
                  rw [if_neg (by omega), if_neg (by omega), if_neg (by omega)]
                  first
                  | (exfalso; omega)
                  | (rw [if_pos (show strF b < 3 by omega), ← t3]
                     exact ((s142.sset 0 hi).push b).at _)
                  | (rw [if_neg (show ¬ strF b < 3 by omega), if_pos (show strF b = 3 by omega), ← t3]
                     exact ((s142.sset 1 hi).push b).at _)
                  | (rw [if_neg (show ¬ strF b < 3 by omega), if_neg (show ¬ strF b = 3 by omega), ← t3]
                     exact (s142.push b).at _)
              · refine AW.aload_n (pc' := 166) dX12_behind_165 rfl ?_
                refine AW.getR (pc' := 169) dX12_behind_166 ly_57 fX12_77 rfl ?_
                refine AW.aload_n (pc' := 170) dX12_behind_169 rfl ?_
                refine AW.getI (pc' := 173) dX12_behind_170 ly_57 fX12_209 rfl (fun r170 => ?_)
                refine AW.iconst (pc' := 174) dX12_behind_173 ?_
                first | refine AW.iastN (pc' := 175) dX12_behind_174 ly_79 (by first | assumption | omega | (constructor <;> omega) | (simp only [Int.toNat_natCast]; omega) | exact b2_in _) (by decide) (by first | assumption | omega | (constructor <;> omega) | (simp only [Int.toNat_natCast]; omega) | exact b2_in _) ?_ | refine AW.iast (pc' := 175) dX12_behind_174 ly_79 (by first | assumption | omega | (constructor <;> omega) | (simp only [Int.toNat_natCast]; omega) | exact b2_in _) (by first | assumption | omega | (constructor <;> omega) | (simp only [Int.toNat_natCast]; omega) | exact b2_in _) (by decide) (by first | assumption | omega | (constructor <;> omega) | (simp only [Int.toNat_natCast]; omega) | exact b2_in _) ?_
                refine AW.aload_n (pc' := 176) dX12_behind_175 rfl ?_
                refine AW.getR (pc' := 179) dX12_behind_176 ly_57 fX12_74 rfl ?_
                refine AW.aload_n (pc' := 180) dX12_behind_179 rfl ?_
                refine AW.getI (pc' := 183) dX12_behind_180 ly_57 fX12_187 rfl (fun r180 => ?_)
                try simp only [hset_app, Nat.reduceEqDiff, false_and, and_false, true_and, and_true, reduceIte] at r180 ⊢
                refine AW.iload_n (pc' := 184) dX12_behind_183 rfl ?_
                first | refine AW.iastN (pc' := 185) dX12_behind_184 ly_78 (by first | assumption | omega | (constructor <;> omega) | (simp only [Int.toNat_natCast]; omega) | exact b2_in _) (by decide) (by first | assumption | omega | (constructor <;> omega) | (simp only [Int.toNat_natCast]; omega) | exact b2_in _) ?_ | refine AW.iast (pc' := 185) dX12_behind_184 ly_78 (by first | assumption | omega | (constructor <;> omega) | (simp only [Int.toNat_natCast]; omega) | exact b2_in _) (by first | assumption | omega | (constructor <;> omega) | (simp only [Int.toNat_natCast]; omega) | exact b2_in _) (by decide) (by first | assumption | omega | (constructor <;> omega) | (simp only [Int.toNat_natCast]; omega) | exact b2_in _) ?_
                refine AW.aload_n (pc' := 186) dX12_behind_185 rfl ?_
                refine AW.dup (pc' := 187) dX12_behind_186 rfl ?_
                refine AW.getI (pc' := 190) dX12_behind_187 ly_57 fX12_187 rfl (fun r187 => ?_)
                try simp only [hset_app, Nat.reduceEqDiff, false_and, and_false, true_and, and_true, reduceIte] at r187 ⊢
                refine AW.iconst (pc' := 191) dX12_behind_190 ?_
                refine AW.iadd (pc' := 192) dX12_behind_191 ?_
                refine AW.putI (pc' := 195) dX12_behind_192 ly_57 pX12_187 rfl (by first | assumption | omega | (constructor <;> omega) | (simp only [Int.toNat_natCast]; omega) | exact b2_in _) ?_
                refine AW.aload_n (pc' := 196) dX12_behind_195 rfl ?_
                refine AW.dup (pc' := 197) dX12_behind_196 rfl ?_
                refine AW.getI (pc' := 200) dX12_behind_197 ly_57 fX12_200 rfl (fun r197 => ?_)
                try simp only [hset_app, Nat.reduceEqDiff, false_and, and_false, true_and, and_true, reduceIte] at r197 ⊢
                refine AW.iconst (pc' := 201) dX12_behind_200 ?_
                refine AW.iadd (pc' := 202) dX12_behind_201 ?_
                refine AW.putI (pc' := 205) dX12_behind_202 ly_57 pX12_200 rfl (by first | assumption | omega | (constructor <;> omega) | (simp only [Int.toNat_natCast]; omega) | exact b2_in _) ?_
                refine AW.iconst (pc' := 206) dX12_behind_205 ?_
                refine AW.iret dX12_behind_206 ?_ ?_
                · refine congrArg (fun z : Int => (some (vI z) : Option AV)) ?_
                  unfold behF
                  rw [if_neg (by omega), if_neg (by omega), if_neg (by omega)]
                · unfold behF
                  rw [if_neg (by omega), if_neg (by omega), if_neg (by omega)]
                  first
                  | (exfalso; omega)
                  | (rw [if_pos (show strF b < 3 by omega), ← t3]
                     exact ((s142.sset 0 hi).push b).at _)
                  | (rw [if_neg (show ¬ strF b < 3 by omega), if_pos (show strF b = 3 by omega), ← t3]
                     exact ((s142.sset 1 hi).push b).at _)
                  | (rw [if_neg (show ¬ strF b < 3 by omega), if_neg (show ¬ strF b = 3 by omega), ← t3]
                     exact (s142.push b).at _)
            · refine AW.aload_n (pc' := 151) dX12_behind_150 rfl ?_
              refine AW.getR (pc' := 154) dX12_behind_151 ly_57 fX12_77 rfl ?_
              refine AW.aload_n (pc' := 155) dX12_behind_154 rfl ?_
              refine AW.getI (pc' := 158) dX12_behind_155 ly_57 fX12_209 rfl (fun r155 => ?_)
              refine AW.iconst (pc' := 159) dX12_behind_158 ?_
              first | refine AW.iastN (pc' := 160) dX12_behind_159 ly_79 (by first | assumption | omega | (constructor <;> omega) | (simp only [Int.toNat_natCast]; omega) | exact b2_in _) (by decide) (by first | assumption | omega | (constructor <;> omega) | (simp only [Int.toNat_natCast]; omega) | exact b2_in _) ?_ | refine AW.iast (pc' := 160) dX12_behind_159 ly_79 (by first | assumption | omega | (constructor <;> omega) | (simp only [Int.toNat_natCast]; omega) | exact b2_in _) (by first | assumption | omega | (constructor <;> omega) | (simp only [Int.toNat_natCast]; omega) | exact b2_in _) (by decide) (by first | assumption | omega | (constructor <;> omega) | (simp only [Int.toNat_natCast]; omega) | exact b2_in _) ?_
              refine AW.iload_n (pc' := 161) dX12_behind_160 rfl ?_
              refine AW.iconst (pc' := 162) dX12_behind_161 ?_
              refine AW.icmp_ne (tgt := 175) (pc' := 165) dX12_behind_162 (by first | assumption | omega | (constructor <;> omega) | (simp only [Int.toNat_natCast]; omega) | exact b2_in _) (by first | assumption | omega | (constructor <;> omega) | (simp only [Int.toNat_natCast]; omega) | exact b2_in _) (fun c162 => ?_) (fun c162 => ?_)
              · refine AW.aload_n (pc' := 176) dX12_behind_175 rfl ?_
                refine AW.getR (pc' := 179) dX12_behind_176 ly_57 fX12_74 rfl ?_
                refine AW.aload_n (pc' := 180) dX12_behind_179 rfl ?_
                refine AW.getI (pc' := 183) dX12_behind_180 ly_57 fX12_187 rfl (fun r180 => ?_)
                try simp only [hset_app, Nat.reduceEqDiff, false_and, and_false, true_and, and_true, reduceIte] at r180 ⊢
                refine AW.iload_n (pc' := 184) dX12_behind_183 rfl ?_
                first | refine AW.iastN (pc' := 185) dX12_behind_184 ly_78 (by first | assumption | omega | (constructor <;> omega) | (simp only [Int.toNat_natCast]; omega) | exact b2_in _) (by decide) (by first | assumption | omega | (constructor <;> omega) | (simp only [Int.toNat_natCast]; omega) | exact b2_in _) ?_ | refine AW.iast (pc' := 185) dX12_behind_184 ly_78 (by first | assumption | omega | (constructor <;> omega) | (simp only [Int.toNat_natCast]; omega) | exact b2_in _) (by first | assumption | omega | (constructor <;> omega) | (simp only [Int.toNat_natCast]; omega) | exact b2_in _) (by decide) (by first | assumption | omega | (constructor <;> omega) | (simp only [Int.toNat_natCast]; omega) | exact b2_in _) ?_
                refine AW.aload_n (pc' := 186) dX12_behind_185 rfl ?_
                refine AW.dup (pc' := 187) dX12_behind_186 rfl ?_
                refine AW.getI (pc' := 190) dX12_behind_187 ly_57 fX12_187 rfl (fun r187 => ?_)
                try simp only [hset_app, Nat.reduceEqDiff, false_and, and_false, true_and, and_true, reduceIte] at r187 ⊢
                refine AW.iconst (pc' := 191) dX12_behind_190 ?_
                refine AW.iadd (pc' := 192) dX12_behind_191 ?_
                refine AW.putI (pc' := 195) dX12_behind_192 ly_57 pX12_187 rfl (by first | assumption | omega | (constructor <;> omega) | (simp only [Int.toNat_natCast]; omega) | exact b2_in _) ?_
                refine AW.aload_n (pc' := 196) dX12_behind_195 rfl ?_
                refine AW.dup (pc' := 197) dX12_behind_196 rfl ?_
                refine AW.getI (pc' := 200) dX12_behind_197 ly_57 fX12_200 rfl (fun r197 => ?_)
                try simp only [hset_app, Nat.reduceEqDiff, false_and, and_false, true_and, and_true, reduceIte] at r197 ⊢
                refine AW.iconst (pc' := 201) dX12_behind_200 ?_
                refine AW.iadd (pc' := 202) dX12_behind_201 ?_
                refine AW.putI (pc' := 205) dX12_behind_202 ly_57 pX12_200 rfl (by first | assumption | omega | (constructor <;> omega) | (simp only [Int.toNat_natCast]; omega) | exact b2_in _) ?_
                refine AW.iconst (pc' := 206) dX12_behind_205 ?_
                refine AW.iret dX12_behind_206 ?_ ?_
                · refine congrArg (fun z : Int => (some (vI z) : Option AV)) ?_
                  unfold behF
                  rw [if_neg (by omega), if_neg (by omega), if_neg (by omega)]
                · unfold behF
                  rw [if_neg (by omega), if_neg (by omega), if_neg (by omega)]
                  first
                  | (exfalso; omega)
                  | (rw [if_pos (show strF b < 3 by omega), ← t3]
                     exact ((s142.sset 0 hi).push b).at _)
                  | (rw [if_neg (show ¬ strF b < 3 by omega), if_pos (show strF b = 3 by omega), ← t3]
                     exact ((s142.sset 1 hi).push b).at _)
                  | (rw [if_neg (show ¬ strF b < 3 by omega), if_neg (show ¬ strF b = 3 by omega), ← t3]
                     exact (s142.push b).at _)
              · refine AW.aload_n (pc' := 166) dX12_behind_165 rfl ?_
                refine AW.getR (pc' := 169) dX12_behind_166 ly_57 fX12_77 rfl ?_
                refine AW.aload_n (pc' := 170) dX12_behind_169 rfl ?_
                refine AW.getI (pc' := 173) dX12_behind_170 ly_57 fX12_209 rfl (fun r170 => ?_)
                try simp only [hset_app, Nat.reduceEqDiff, false_and, and_false, true_and, and_true, reduceIte] at r170 ⊢
                refine AW.iconst (pc' := 174) dX12_behind_173 ?_
                first | refine AW.iastN (pc' := 175) dX12_behind_174 ly_79 (by first | assumption | omega | (constructor <;> omega) | (simp only [Int.toNat_natCast]; omega) | exact b2_in _) (by decide) (by first | assumption | omega | (constructor <;> omega) | (simp only [Int.toNat_natCast]; omega) | exact b2_in _) ?_ | refine AW.iast (pc' := 175) dX12_behind_174 ly_79 (by first | assumption | omega | (constructor <;> omega) | (simp only [Int.toNat_natCast]; omega) | exact b2_in _) (by first | assumption | omega | (constructor <;> omega) | (simp only [Int.toNat_natCast]; omega) | exact b2_in _) (by decide) (by first | assumption | omega | (constructor <;> omega) | (simp only [Int.toNat_natCast]; omega) | exact b2_in _) ?_
                refine AW.aload_n (pc' := 176) dX12_behind_175 rfl ?_
                refine AW.getR (pc' := 179) dX12_behind_176 ly_57 fX12_74 rfl ?_
                refine AW.aload_n (pc' := 180) dX12_behind_179 rfl ?_
                refine AW.getI (pc' := 183) dX12_behind_180 ly_57 fX12_187 rfl (fun r180 => ?_)
                try simp only [hset_app, Nat.reduceEqDiff, false_and, and_false, true_and, and_true, reduceIte] at r180 ⊢
                refine AW.iload_n (pc' := 184) dX12_behind_183 rfl ?_
                first | refine AW.iastN (pc' := 185) dX12_behind_184 ly_78 (by first | assumption | omega | (constructor <;> omega) | (simp only [Int.toNat_natCast]; omega) | exact b2_in _) (by decide) (by first | assumption | omega | (constructor <;> omega) | (simp only [Int.toNat_natCast]; omega) | exact b2_in _) ?_ | refine AW.iast (pc' := 185) dX12_behind_184 ly_78 (by first | assumption | omega | (constructor <;> omega) | (simp only [Int.toNat_natCast]; omega) | exact b2_in _) (by first | assumption | omega | (constructor <;> omega) | (simp only [Int.toNat_natCast]; omega) | exact b2_in _) (by decide) (by first | assumption | omega | (constructor <;> omega) | (simp only [Int.toNat_natCast]; omega) | exact b2_in _) ?_
                refine AW.aload_n (pc' := 186) dX12_behind_185 rfl ?_
                refine AW.dup (pc' := 187) dX12_behind_186 rfl ?_
                refine AW.getI (pc' := 190) dX12_behind_187 ly_57 fX12_187 rfl (fun r187 => ?_)
                try simp only [hset_app, Nat.reduceEqDiff, false_and, and_false, true_and, and_true, reduceIte] at r187 ⊢
                refine AW.iconst (pc' := 191) dX12_behind_190 ?_
                refine AW.iadd (pc' := 192) dX12_behind_191 ?_
                refine AW.putI (pc' := 195) dX12_behind_192 ly_57 pX12_187 rfl (by first | assumption | omega | (constructor <;> omega) | (simp only [Int.toNat_natCast]; omega) | exact b2_in _) ?_
                refine AW.aload_n (pc' := 196) dX12_behind_195 rfl ?_
                refine AW.dup (pc' := 197) dX12_behind_196 rfl ?_
                refine AW.getI (pc' := 200) dX12_behind_197 ly_57 fX12_200 rfl (fun r197 => ?_)
                try simp only [hset_app, Nat.reduceEqDiff, false_and, and_false, true_and, and_true, reduceIte] at r197 ⊢
                refine AW.iconst (pc' := 201) dX12_behind_200 ?_
                refine AW.iadd (pc' := 202) dX12_behind_201 ?_
                refine AW.putI (pc' := 205) dX12_behind_202 ly_57 pX12_200 rfl (by first | assumption | omega | (constructor <;> omega) | (simp only [Int.toNat_natCast]; omega) | exact b2_in _) ?_
                refine AW.iconst (pc' := 206) dX12_behind_205 ?_
                refine AW.iret dX12_behind_206 ?_ ?_
                · refine congrArg (fun z : Int => (some (vI z) : Option AV)) ?_
                  unfold behF
                  rw [if_neg (by omega), if_neg (by omega), if_neg (by omega)]
                · unfold behF
                  rw [if_neg (by omega), if_neg (by omega), if_neg (by omega)]
                  first
                  | (exfalso; omega)
                  | (rw [if_pos (show strF b < 3 by omega), ← t3]
                     exact ((s142.sset 0 hi).push b).at _)
                  | (rw [if_neg (show ¬ strF b < 3 by omega), if_pos (show strF b = 3 by omega), ← t3]
                     exact ((s142.sset 1 hi).push b).at _)
                  | (rw [if_neg (show ¬ strF b < 3 by omega), if_neg (show ¬ strF b = 3 by omega), ← t3]
                     exact (s142.push b).at _)
          · refine AW.aload_n (pc' := 126) dX12_behind_125 rfl ?_
            refine AW.getR (pc' := 129) dX12_behind_126 ly_57 fX12_77 rfl ?_
            refine AW.aload_n (pc' := 130) dX12_behind_129 rfl ?_
            refine AW.getI (pc' := 133) dX12_behind_130 ly_57 fX12_209 rfl (fun r130 => ?_)
            first | refine AW.ialdN (pc' := 134) dX12_behind_133 ly_79 (by first | assumption | omega | (constructor <;> omega) | (simp only [Int.toNat_natCast]; omega) | exact b2_in _) (by decide) (fun r133 => ?_) | refine AW.iald (pc' := 134) dX12_behind_133 ly_79 (by first | assumption | omega | (constructor <;> omega) | (simp only [Int.toNat_natCast]; omega) | exact b2_in _) (by first | assumption | omega | (constructor <;> omega) | (simp only [Int.toNat_natCast]; omega) | exact b2_in _) (by decide) (fun r133 => ?_)
            refine AW.iconst (pc' := 135) dX12_behind_134 ?_
            refine AW.icmp_ne (tgt := 140) (pc' := 138) dX12_behind_135 (by first | assumption | omega | (constructor <;> omega) | (simp only [Int.toNat_natCast]; omega) | exact b2_in _) (by first | assumption | omega | (constructor <;> omega) | (simp only [Int.toNat_natCast]; omega) | exact b2_in _) (fun c135 => ?_) (fun c135 => ?_)
            · refine AW.aload_n (pc' := 141) dX12_behind_140 rfl ?_
              refine AW.iload_n (pc' := 142) dX12_behind_141 rfl ?_
              refine AW.invQ1v (pc' := 145) dX12_behind_142 mlX12_212 mX12_settles ly_57 rfl (c_X12_settles (dep := dep - 1) (by omega) ms (by omega) (by omega) (by constructor <;> omega)) (fun h142 s142 => ?_)
              have t3 := s142.2.2.1
              have t5 := s142.2.2.2.2.1
              have t35 := s142.stop.1
              have hi : (h142 57 35).toNat = S.length := by omega
              refine AW.iload_n (pc' := 146) dX12_behind_145 rfl ?_
              refine AW.iconst (pc' := 147) dX12_behind_146 ?_
              refine AW.icmp_ge (tgt := 160) (pc' := 150) dX12_behind_147 (by first | assumption | omega | (constructor <;> omega) | (simp only [Int.toNat_natCast]; omega) | exact b2_in _) (by first | assumption | omega | (constructor <;> omega) | (simp only [Int.toNat_natCast]; omega) | exact b2_in _) (fun c147 => ?_) (fun c147 => ?_)
              · refine AW.iload_n (pc' := 161) dX12_behind_160 rfl ?_
                refine AW.iconst (pc' := 162) dX12_behind_161 ?_
                refine AW.icmp_ne (tgt := 175) (pc' := 165) dX12_behind_162 (by first | assumption | omega | (constructor <;> omega) | (simp only [Int.toNat_natCast]; omega) | exact b2_in _) (by first | assumption | omega | (constructor <;> omega) | (simp only [Int.toNat_natCast]; omega) | exact b2_in _) (fun c162 => ?_) (fun c162 => ?_)
                · refine AW.aload_n (pc' := 176) dX12_behind_175 rfl ?_
                  refine AW.getR (pc' := 179) dX12_behind_176 ly_57 fX12_74 rfl ?_
                  refine AW.aload_n (pc' := 180) dX12_behind_179 rfl ?_
                  refine AW.getI (pc' := 183) dX12_behind_180 ly_57 fX12_187 rfl (fun r180 => ?_)
                  refine AW.iload_n (pc' := 184) dX12_behind_183 rfl ?_
                  first | refine AW.iastN (pc' := 185) dX12_behind_184 ly_78 (by first | assumption | omega | (constructor <;> omega) | (simp only [Int.toNat_natCast]; omega) | exact b2_in _) (by decide) (by first | assumption | omega | (constructor <;> omega) | (simp only [Int.toNat_natCast]; omega) | exact b2_in _) ?_ | refine AW.iast (pc' := 185) dX12_behind_184 ly_78 (by first | assumption | omega | (constructor <;> omega) | (simp only [Int.toNat_natCast]; omega) | exact b2_in _) (by first | assumption | omega | (constructor <;> omega) | (simp only [Int.toNat_natCast]; omega) | exact b2_in _) (by decide) (by first | assumption | omega | (constructor <;> omega) | (simp only [Int.toNat_natCast]; omega) | exact b2_in _) ?_
                  refine AW.aload_n (pc' := 186) dX12_behind_185 rfl ?_
                  refine AW.dup (pc' := 187) dX12_behind_186 rfl ?_
                  refine AW.getI (pc' := 190) dX12_behind_187 ly_57 fX12_187 rfl (fun r187 => ?_)
                  try simp only [hset_app, Nat.reduceEqDiff, false_and, and_false, true_and, and_true, reduceIte] at r187 ⊢
                  refine AW.iconst (pc' := 191) dX12_behind_190 ?_
                  refine AW.iadd (pc' := 192) dX12_behind_191 ?_
                  refine AW.putI (pc' := 195) dX12_behind_192 ly_57 pX12_187 rfl (by first | assumption | omega | (constructor <;> omega) | (simp only [Int.toNat_natCast]; omega) | exact b2_in _) ?_
                  refine AW.aload_n (pc' := 196) dX12_behind_195 rfl ?_
                  refine AW.dup (pc' := 197) dX12_behind_196 rfl ?_
                  refine AW.getI (pc' := 200) dX12_behind_197 ly_57 fX12_200 rfl (fun r197 => ?_)
                  try simp only [hset_app, Nat.reduceEqDiff, false_and, and_false, true_and, and_true, reduceIte] at r197 ⊢
                  refine AW.iconst (pc' := 201) dX12_behind_200 ?_
                  refine AW.iadd (pc' := 202) dX12_behind_201 ?_
                  refine AW.putI (pc' := 205) dX12_behind_202 ly_57 pX12_200 rfl (by first | assumption | omega | (constructor <;> omega) | (simp only [Int.toNat_natCast]; omega) | exact b2_in _) ?_
                  refine AW.iconst (pc' := 206) dX12_behind_205 ?_
                  refine AW.iret dX12_behind_206 ?_ ?_
                  · refine congrArg (fun z : Int => (some (vI z) : Option AV)) ?_
                    unfold behF
                    rw [if_neg (by omega), if_neg (by omega), if_neg (by omega)]
                  · unfold behF
                    rw [if_neg (by omega), if_neg (by omega), if_neg (by omega)]
                    first
                    | (exfalso; omega)
                    | (rw [if_pos (show strF b < 3 by omega), ← t3]
                       exact ((s142.sset 0 hi).push b).at _)
                    | (rw [if_neg (show ¬ strF b < 3 by omega), if_pos (show strF b = 3 by omega), ← t3]
                       exact ((s142.sset 1 hi).push b).at _)
                    | (rw [if_neg (show ¬ strF b < 3 by omega), if_neg (show ¬ strF b = 3 by omega), ← t3]
                       exact (s142.push b).at _)
                · refine AW.aload_n (pc' := 166) dX12_behind_165 rfl ?_
                  refine AW.getR (pc' := 169) dX12_behind_166 ly_57 fX12_77 rfl ?_
                  refine AW.aload_n (pc' := 170) dX12_behind_169 rfl ?_
                  refine AW.getI (pc' := 173) dX12_behind_170 ly_57 fX12_209 rfl (fun r170 => ?_)
                  refine AW.iconst (pc' := 174) dX12_behind_173 ?_
                  first | refine AW.iastN (pc' := 175) dX12_behind_174 ly_79 (by first | assumption | omega | (constructor <;> omega) | (simp only [Int.toNat_natCast]; omega) | exact b2_in _) (by decide) (by first | assumption | omega | (constructor <;> omega) | (simp only [Int.toNat_natCast]; omega) | exact b2_in _) ?_ | refine AW.iast (pc' := 175) dX12_behind_174 ly_79 (by first | assumption | omega | (constructor <;> omega) | (simp only [Int.toNat_natCast]; omega) | exact b2_in _) (by first | assumption | omega | (constructor <;> omega) | (simp only [Int.toNat_natCast]; omega) | exact b2_in _) (by decide) (by first | assumption | omega | (constructor <;> omega) | (simp only [Int.toNat_natCast]; omega) | exact b2_in _) ?_
                  refine AW.aload_n (pc' := 176) dX12_behind_175 rfl ?_
                  refine AW.getR (pc' := 179) dX12_behind_176 ly_57 fX12_74 rfl ?_
                  refine AW.aload_n (pc' := 180) dX12_behind_179 rfl ?_
                  refine AW.getI (pc' := 183) dX12_behind_180 ly_57 fX12_187 rfl (fun r180 => ?_)
                  try simp only [hset_app, Nat.reduceEqDiff, false_and, and_false, true_and, and_true, reduceIte] at r180 ⊢
                  refine AW.iload_n (pc' := 184) dX12_behind_183 rfl ?_
                  first | refine AW.iastN (pc' := 185) dX12_behind_184 ly_78 (by first | assumption | omega | (constructor <;> omega) | (simp only [Int.toNat_natCast]; omega) | exact b2_in _) (by decide) (by first | assumption | omega | (constructor <;> omega) | (simp only [Int.toNat_natCast]; omega) | exact b2_in _) ?_ | refine AW.iast (pc' := 185) dX12_behind_184 ly_78 (by first | assumption | omega | (constructor <;> omega) | (simp only [Int.toNat_natCast]; omega) | exact b2_in _) (by first | assumption | omega | (constructor <;> omega) | (simp only [Int.toNat_natCast]; omega) | exact b2_in _) (by decide) (by first | assumption | omega | (constructor <;> omega) | (simp only [Int.toNat_natCast]; omega) | exact b2_in _) ?_
                  refine AW.aload_n (pc' := 186) dX12_behind_185 rfl ?_
                  refine AW.dup (pc' := 187) dX12_behind_186 rfl ?_
                  refine AW.getI (pc' := 190) dX12_behind_187 ly_57 fX12_187 rfl (fun r187 => ?_)
                  try simp only [hset_app, Nat.reduceEqDiff, false_and, and_false, true_and, and_true, reduceIte] at r187 ⊢
                  refine AW.iconst (pc' := 191) dX12_behind_190 ?_
                  refine AW.iadd (pc' := 192) dX12_behind_191 ?_
                  refine AW.putI (pc' := 195) dX12_behind_192 ly_57 pX12_187 rfl (by first | assumption | omega | (constructor <;> omega) | (simp only [Int.toNat_natCast]; omega) | exact b2_in _) ?_
                  refine AW.aload_n (pc' := 196) dX12_behind_195 rfl ?_
                  refine AW.dup (pc' := 197) dX12_behind_196 rfl ?_
                  refine AW.getI (pc' := 200) dX12_behind_197 ly_57 fX12_200 rfl (fun r197 => ?_)
                  try simp only [hset_app, Nat.reduceEqDiff, false_and, and_false, true_and, and_true, reduceIte] at r197 ⊢
                  refine AW.iconst (pc' := 201) dX12_behind_200 ?_
                  refine AW.iadd (pc' := 202) dX12_behind_201 ?_
                  refine AW.putI (pc' := 205) dX12_behind_202 ly_57 pX12_200 rfl (by first | assumption | omega | (constructor <;> omega) | (simp only [Int.toNat_natCast]; omega) | exact b2_in _) ?_
                  refine AW.iconst (pc' := 206) dX12_behind_205 ?_
                  refine AW.iret dX12_behind_206 ?_ ?_
                  · refine congrArg (fun z : Int => (some (vI z) : Option AV)) ?_
                    unfold behF
                    rw [if_neg (by omega), if_neg (by omega), if_neg (by omega)]
                  · unfold behF
                    rw [if_neg (by omega), if_neg (by omega), if_neg (by omega)]
                    first
                    | (exfalso; omega)
                    | (rw [if_pos (show strF b < 3 by omega), ← t3]
                       exact ((s142.sset 0 hi).push b).at _)
                    | (rw [if_neg (show ¬ strF b < 3 by omega), if_pos (show strF b = 3 by omega), ← t3]
                       exact ((s142.sset 1 hi).push b).at _)
                    | (rw [if_neg (show ¬ strF b < 3 by omega), if_neg (show ¬ strF b = 3 by omega), ← t3]
                       exact (s142.push b).at _)
              · refine AW.aload_n (pc' := 151) dX12_behind_150 rfl ?_
                refine AW.getR (pc' := 154) dX12_behind_151 ly_57 fX12_77 rfl ?_
                refine AW.aload_n (pc' := 155) dX12_behind_154 rfl ?_
                refine AW.getI (pc' := 158) dX12_behind_155 ly_57 fX12_209 rfl (fun r155 => ?_)
                refine AW.iconst (pc' := 159) dX12_behind_158 ?_
                first | refine AW.iastN (pc' := 160) dX12_behind_159 ly_79 (by first | assumption | omega | (constructor <;> omega) | (simp only [Int.toNat_natCast]; omega) | exact b2_in _) (by decide) (by first | assumption | omega | (constructor <;> omega) | (simp only [Int.toNat_natCast]; omega) | exact b2_in _) ?_ | refine AW.iast (pc' := 160) dX12_behind_159 ly_79 (by first | assumption | omega | (constructor <;> omega) | (simp only [Int.toNat_natCast]; omega) | exact b2_in _) (by first | assumption | omega | (constructor <;> omega) | (simp only [Int.toNat_natCast]; omega) | exact b2_in _) (by decide) (by first | assumption | omega | (constructor <;> omega) | (simp only [Int.toNat_natCast]; omega) | exact b2_in _) ?_
                refine AW.iload_n (pc' := 161) dX12_behind_160 rfl ?_
                refine AW.iconst (pc' := 162) dX12_behind_161 ?_
                refine AW.icmp_ne (tgt := 175) (pc' := 165) dX12_behind_162 (by first | assumption | omega | (constructor <;> omega) | (simp only [Int.toNat_natCast]; omega) | exact b2_in _) (by first | assumption | omega | (constructor <;> omega) | (simp only [Int.toNat_natCast]; omega) | exact b2_in _) (fun c162 => ?_) (fun c162 => ?_)
                · refine AW.aload_n (pc' := 176) dX12_behind_175 rfl ?_
                  refine AW.getR (pc' := 179) dX12_behind_176 ly_57 fX12_74 rfl ?_
                  refine AW.aload_n (pc' := 180) dX12_behind_179 rfl ?_
                  refine AW.getI (pc' := 183) dX12_behind_180 ly_57 fX12_187 rfl (fun r180 => ?_)
                  try simp only [hset_app, Nat.reduceEqDiff, false_and, and_false, true_and, and_true, reduceIte] at r180 ⊢
                  refine AW.iload_n (pc' := 184) dX12_behind_183 rfl ?_
                  first | refine AW.iastN (pc' := 185) dX12_behind_184 ly_78 (by first | assumption | omega | (constructor <;> omega) | (simp only [Int.toNat_natCast]; omega) | exact b2_in _) (by decide) (by first | assumption | omega | (constructor <;> omega) | (simp only [Int.toNat_natCast]; omega) | exact b2_in _) ?_ | refine AW.iast (pc' := 185) dX12_behind_184 ly_78 (by first | assumption | omega | (constructor <;> omega) | (simp only [Int.toNat_natCast]; omega) | exact b2_in _) (by first | assumption | omega | (constructor <;> omega) | (simp only [Int.toNat_natCast]; omega) | exact b2_in _) (by decide) (by first | assumption | omega | (constructor <;> omega) | (simp only [Int.toNat_natCast]; omega) | exact b2_in _) ?_
                  refine AW.aload_n (pc' := 186) dX12_behind_185 rfl ?_
                  refine AW.dup (pc' := 187) dX12_behind_186 rfl ?_
                  refine AW.getI (pc' := 190) dX12_behind_187 ly_57 fX12_187 rfl (fun r187 => ?_)
                  try simp only [hset_app, Nat.reduceEqDiff, false_and, and_false, true_and, and_true, reduceIte] at r187 ⊢
                  refine AW.iconst (pc' := 191) dX12_behind_190 ?_
                  refine AW.iadd (pc' := 192) dX12_behind_191 ?_
                  refine AW.putI (pc' := 195) dX12_behind_192 ly_57 pX12_187 rfl (by first | assumption | omega | (constructor <;> omega) | (simp only [Int.toNat_natCast]; omega) | exact b2_in _) ?_
                  refine AW.aload_n (pc' := 196) dX12_behind_195 rfl ?_
                  refine AW.dup (pc' := 197) dX12_behind_196 rfl ?_
                  refine AW.getI (pc' := 200) dX12_behind_197 ly_57 fX12_200 rfl (fun r197 => ?_)
                  try simp only [hset_app, Nat.reduceEqDiff, false_and, and_false, true_and, and_true, reduceIte] at r197 ⊢
                  refine AW.iconst (pc' := 201) dX12_behind_200 ?_
                  refine AW.iadd (pc' := 202) dX12_behind_201 ?_
                  refine AW.putI (pc' := 205) dX12_behind_202 ly_57 pX12_200 rfl (by first | assumption | omega | (constructor <;> omega) | (simp only [Int.toNat_natCast]; omega) | exact b2_in _) ?_
                  refine AW.iconst (pc' := 206) dX12_behind_205 ?_
                  refine AW.iret dX12_behind_206 ?_ ?_
                  · refine congrArg (fun z : Int => (some (vI z) : Option AV)) ?_
                    unfold behF
                    rw [if_neg (by omega), if_neg (by omega), if_neg (by omega)]
                  · unfold behF
                    rw [if_neg (by omega), if_neg (by omega), if_neg (by omega)]
                    first
                    | (exfalso; omega)
                    | (rw [if_pos (show strF b < 3 by omega), ← t3]
                       exact ((s142.sset 0 hi).push b).at _)
                    | (rw [if_neg (show ¬ strF b < 3 by omega), if_pos (show strF b = 3 by omega), ← t3]
                       exact ((s142.sset 1 hi).push b).at _)
                    | (rw [if_neg (show ¬ strF b < 3 by omega), if_neg (show ¬ strF b = 3 by omega), ← t3]
                       exact (s142.push b).at _)
                · refine AW.aload_n (pc' := 166) dX12_behind_165 rfl ?_
                  refine AW.getR (pc' := 169) dX12_behind_166 ly_57 fX12_77 rfl ?_
                  refine AW.aload_n (pc' := 170) dX12_behind_169 rfl ?_
                  refine AW.getI (pc' := 173) dX12_behind_170 ly_57 fX12_209 rfl (fun r170 => ?_)
                  try simp only [hset_app, Nat.reduceEqDiff, false_and, and_false, true_and, and_true, reduceIte] at r170 ⊢
                  refine AW.iconst (pc' := 174) dX12_behind_173 ?_
                  first | refine AW.iastN (pc' := 175) dX12_behind_174 ly_79 (by first | assumption | omega | (constructor <;> omega) | (simp only [Int.toNat_natCast]; omega) | exact b2_in _) (by decide) (by first | assumption | omega | (constructor <;> omega) | (simp only [Int.toNat_natCast]; omega) | exact b2_in _) ?_ | refine AW.iast (pc' := 175) dX12_behind_174 ly_79 (by first | assumption | omega | (constructor <;> omega) | (simp only [Int.toNat_natCast]; omega) | exact b2_in _) (by first | assumption | omega | (constructor <;> omega) | (simp only [Int.toNat_natCast]; omega) | exact b2_in _) (by decide) (by first | assumption | omega | (constructor <;> omega) | (simp only [Int.toNat_natCast]; omega) | exact b2_in _) ?_
                  refine AW.aload_n (pc' := 176) dX12_behind_175 rfl ?_
                  refine AW.getR (pc' := 179) dX12_behind_176 ly_57 fX12_74 rfl ?_
                  refine AW.aload_n (pc' := 180) dX12_behind_179 rfl ?_
                  refine AW.getI (pc' := 183) dX12_behind_180 ly_57 fX12_187 rfl (fun r180 => ?_)
                  try simp only [hset_app, Nat.reduceEqDiff, false_and, and_false, true_and, and_true, reduceIte] at r180 ⊢
                  refine AW.iload_n (pc' := 184) dX12_behind_183 rfl ?_
                  first | refine AW.iastN (pc' := 185) dX12_behind_184 ly_78 (by first | assumption | omega | (constructor <;> omega) | (simp only [Int.toNat_natCast]; omega) | exact b2_in _) (by decide) (by first | assumption | omega | (constructor <;> omega) | (simp only [Int.toNat_natCast]; omega) | exact b2_in _) ?_ | refine AW.iast (pc' := 185) dX12_behind_184 ly_78 (by first | assumption | omega | (constructor <;> omega) | (simp only [Int.toNat_natCast]; omega) | exact b2_in _) (by first | assumption | omega | (constructor <;> omega) | (simp only [Int.toNat_natCast]; omega) | exact b2_in _) (by decide) (by first | assumption | omega | (constructor <;> omega) | (simp only [Int.toNat_natCast]; omega) | exact b2_in _) ?_
                  refine AW.aload_n (pc' := 186) dX12_behind_185 rfl ?_
                  refine AW.dup (pc' := 187) dX12_behind_186 rfl ?_
                  refine AW.getI (pc' := 190) dX12_behind_187 ly_57 fX12_187 rfl (fun r187 => ?_)
                  try simp only [hset_app, Nat.reduceEqDiff, false_and, and_false, true_and, and_true, reduceIte] at r187 ⊢
                  refine AW.iconst (pc' := 191) dX12_behind_190 ?_
                  refine AW.iadd (pc' := 192) dX12_behind_191 ?_
                  refine AW.putI (pc' := 195) dX12_behind_192 ly_57 pX12_187 rfl (by first | assumption | omega | (constructor <;> omega) | (simp only [Int.toNat_natCast]; omega) | exact b2_in _) ?_
                  refine AW.aload_n (pc' := 196) dX12_behind_195 rfl ?_
                  refine AW.dup (pc' := 197) dX12_behind_196 rfl ?_
                  refine AW.getI (pc' := 200) dX12_behind_197 ly_57 fX12_200 rfl (fun r197 => ?_)
                  try simp only [hset_app, Nat.reduceEqDiff, false_and, and_false, true_and, and_true, reduceIte] at r197 ⊢
                  refine AW.iconst (pc' := 201) dX12_behind_200 ?_
                  refine AW.iadd (pc' := 202) dX12_behind_201 ?_
                  refine AW.putI (pc' := 205) dX12_behind_202 ly_57 pX12_200 rfl (by first | assumption | omega | (constructor <;> omega) | (simp only [Int.toNat_natCast]; omega) | exact b2_in _) ?_
                  refine AW.iconst (pc' := 206) dX12_behind_205 ?_
                  refine AW.iret dX12_behind_206 ?_ ?_
                  · refine congrArg (fun z : Int => (some (vI z) : Option AV)) ?_
                    unfold behF
                    rw [if_neg (by omega), if_neg (by omega), if_neg (by omega)]
                  · unfold behF
                    rw [if_neg (by omega), if_neg (by omega), if_neg (by omega)]
                    first
                    | (exfalso; omega)
                    | (rw [if_pos (show strF b < 3 by omega), ← t3]
                       exact ((s142.sset 0 hi).push b).at _)
                    | (rw [if_neg (show ¬ strF b < 3 by omega), if_pos (show strF b = 3 by omega), ← t3]
                       exact ((s142.sset 1 hi).push b).at _)
                    | (rw [if_neg (show ¬ strF b < 3 by omega), if_neg (show ¬ strF b = 3 by omega), ← t3]
                       exact (s142.push b).at _)
            · refine AW.iconst (pc' := 139) dX12_behind_138 ?_
              refine AW.iret dX12_behind_139 ?_ ?_
              · refine congrArg (fun z : Int => (some (vI z) : Option AV)) ?_
                unfold behF
                rw [if_neg (by omega), if_neg (by omega), if_pos (by omega)]
              · unfold behF
                rw [if_neg (by omega), if_neg (by omega), if_pos (by omega)]
                exact ms
      · refine AW.aload_n (pc' := 32) dX12_behind_31 rfl ?_
        refine AW.getI (pc' := 35) dX12_behind_32 ly_57 fX12_209 rfl (fun r32 => ?_)
        refine AW.if_gt (tgt := 51) (pc' := 38) dX12_behind_35 (by first | assumption | omega | (constructor <;> omega) | (simp only [Int.toNat_natCast]; omega) | exact b2_in _) (fun c35 => ?_) (fun c35 => ?_)
        · have yq : S ≠ [] ∨ b = 63 ∧ C = 1 := by
            by_cases y : S = []
            · right; rw [y] at sp1; simp only [List.length_nil] at sp1; omega
            · exact Or.inl y
          refine AW.iconst (pc' := 52) dX12_behind_51 ?_
          refine AW.iret dX12_behind_52 ?_ ?_
          · refine congrArg (fun z : Int => (some (vI z) : Option AV)) ?_
            unfold behF
            rw [if_neg (by omega), if_pos (by omega), if_pos yq]
          · unfold behF
            rw [if_neg (by omega), if_pos (by omega), if_pos yq]
            exact ms
        · refine AW.iload_n (pc' := 39) dX12_behind_38 rfl ?_
          refine AW.bipush (pc' := 41) dX12_behind_39 (by decide) ?_
          refine AW.icmp_ne (tgt := 53) (pc' := 44) dX12_behind_41 (by first | assumption | omega | (constructor <;> omega) | (simp only [Int.toNat_natCast]; omega) | exact b2_in _) (by first | assumption | omega | (constructor <;> omega) | (simp only [Int.toNat_natCast]; omega) | exact b2_in _) (fun c41 => ?_) (fun c41 => ?_)
          · have s0 : S = [] := Classical.byContradiction fun y => by
              have := sn.mp y
              omega
            have nq : ¬ (S ≠ [] ∨ b = 63 ∧ C = 1) := fun y => by
              rcases y with y | y
              · exact y s0
              · omega
            subst s0
            refine AW.aload_n (pc' := 54) dX12_behind_53 rfl ?_
            refine AW.iconst (pc' := 55) dX12_behind_54 ?_
            refine AW.invQ1v (pc' := 58) dX12_behind_55 mlX12_212 mX12_settles ly_57 rfl (c_X12_settles (dep := dep - 1) (by omega) ms (by omega) (by omega) (by decide)) (fun h55 s55 => ?_)
            have t3 := s55.2.2.1
            have t4 := s55.2.2.2.1
            refine AW.aload_n (pc' := 59) dX12_behind_58 rfl ?_
            refine AW.iload_n (pc' := 60) dX12_behind_59 rfl ?_
            refine AW.bipush (pc' := 62) dX12_behind_60 (by decide) ?_
            refine AW.icmp_ne (tgt := 71) (pc' := 65) dX12_behind_62 (by first | assumption | omega | (constructor <;> omega) | (simp only [Int.toNat_natCast]; omega) | exact b2_in _) (by first | assumption | omega | (constructor <;> omega) | (simp only [Int.toNat_natCast]; omega) | exact b2_in _) (fun c62 => ?_) (fun c62 => ?_)
            · refine AW.sipush (pc' := 74) dX12_behind_71 (by decide) ?_
              refine AW.invV1v (pc' := 77) dX12_behind_74 mlX12_193 mX12_emits ly_57 rfl (c_X12_emits (dep := dep - 1) (by omega) (by decide)) ?_
              refine AW.aload_n (pc' := 78) dX12_behind_77 rfl ?_
              refine AW.iload_n (pc' := 79) dX12_behind_78 rfl ?_
              refine AW.bipush (pc' := 81) dX12_behind_79 (by decide) ?_
              refine AW.icmp_ne (tgt := 88) (pc' := 84) dX12_behind_81 (by first | assumption | omega | (constructor <;> omega) | (simp only [Int.toNat_natCast]; omega) | exact b2_in _) (by first | assumption | omega | (constructor <;> omega) | (simp only [Int.toNat_natCast]; omega) | exact b2_in _) (fun c81 => ?_) (fun c81 => ?_)
              · refine AW.iconst (pc' := 89) dX12_behind_88 ?_
                refine AW.putZ (pc' := 92) dX12_behind_89 ly_57 pX12_219 rfl (by first | exact Or.inl rfl | exact Or.inr rfl | exact b2_01 _ | assumption) ?_
                refine AW.aload_n (pc' := 93) dX12_behind_92 rfl ?_
                refine AW.getR (pc' := 96) dX12_behind_93 ly_57 fX12_77 rfl ?_
                refine AW.iconst (pc' := 97) dX12_behind_96 ?_
                refine AW.iconst (pc' := 98) dX12_behind_97 ?_
                first | refine AW.iastN (pc' := 99) dX12_behind_98 ly_79 (by first | assumption | omega | (constructor <;> omega) | (simp only [Int.toNat_natCast]; omega) | exact b2_in _) (by decide) (by first | assumption | omega | (constructor <;> omega) | (simp only [Int.toNat_natCast]; omega) | exact b2_in _) ?_ | refine AW.iast (pc' := 99) dX12_behind_98 ly_79 (by first | assumption | omega | (constructor <;> omega) | (simp only [Int.toNat_natCast]; omega) | exact b2_in _) (by first | assumption | omega | (constructor <;> omega) | (simp only [Int.toNat_natCast]; omega) | exact b2_in _) (by decide) (by first | assumption | omega | (constructor <;> omega) | (simp only [Int.toNat_natCast]; omega) | exact b2_in _) ?_
                refine AW.aload_n (pc' := 100) dX12_behind_99 rfl ?_
                refine AW.dup (pc' := 101) dX12_behind_100 rfl ?_
                refine AW.getI (pc' := 104) dX12_behind_101 ly_57 fX12_200 rfl (fun r101 => ?_)
                try simp only [hset_app, Nat.reduceEqDiff, false_and, and_false, true_and, and_true, reduceIte] at r101 ⊢
                refine AW.iconst (pc' := 105) dX12_behind_104 ?_
                refine AW.iadd (pc' := 106) dX12_behind_105 ?_
                refine AW.putI (pc' := 109) dX12_behind_106 ly_57 pX12_200 rfl (by first | assumption | omega | (constructor <;> omega) | (simp only [Int.toNat_natCast]; omega) | exact b2_in _) ?_
                refine AW.iconst (pc' := 110) dX12_behind_109 ?_
                refine AW.iret dX12_behind_110 ?_ ?_
                · refine congrArg (fun z : Int => (some (vI z) : Option AV)) ?_
                  unfold behF
                  rw [if_neg (by omega), if_pos (by omega), if_neg nq]
                · unfold behF
                  rw [if_neg (by omega), if_pos (by omega), if_neg nq]
                  first
                  | (exfalso; omega)
                  | (have e63 : b = 63 := by omega
                     subst e63
                     simp only [Int.reduceEq, reduceIte]
                     rw [← t3]
                     exact (((s55.emit 900).cnd 1).sset 0 rfl).at _)
                  | (have e59 : b = 59 := by omega
                     subst e59
                     simp only [Int.reduceEq, reduceIte]
                     rw [← t3]
                     exact (((s55.emit 901).cnd 0).sset 0 rfl).at _)
              · refine AW.iconst (pc' := 85) dX12_behind_84 ?_
                refine AW.goto (tgt := 89) dX12_behind_85 ?_
                refine AW.putZ (pc' := 92) dX12_behind_89 ly_57 pX12_219 rfl (by first | exact Or.inl rfl | exact Or.inr rfl | exact b2_01 _ | assumption) ?_
                refine AW.aload_n (pc' := 93) dX12_behind_92 rfl ?_
                refine AW.getR (pc' := 96) dX12_behind_93 ly_57 fX12_77 rfl ?_
                refine AW.iconst (pc' := 97) dX12_behind_96 ?_
                refine AW.iconst (pc' := 98) dX12_behind_97 ?_
                first | refine AW.iastN (pc' := 99) dX12_behind_98 ly_79 (by first | assumption | omega | (constructor <;> omega) | (simp only [Int.toNat_natCast]; omega) | exact b2_in _) (by decide) (by first | assumption | omega | (constructor <;> omega) | (simp only [Int.toNat_natCast]; omega) | exact b2_in _) ?_ | refine AW.iast (pc' := 99) dX12_behind_98 ly_79 (by first | assumption | omega | (constructor <;> omega) | (simp only [Int.toNat_natCast]; omega) | exact b2_in _) (by first | assumption | omega | (constructor <;> omega) | (simp only [Int.toNat_natCast]; omega) | exact b2_in _) (by decide) (by first | assumption | omega | (constructor <;> omega) | (simp only [Int.toNat_natCast]; omega) | exact b2_in _) ?_
                refine AW.aload_n (pc' := 100) dX12_behind_99 rfl ?_
                refine AW.dup (pc' := 101) dX12_behind_100 rfl ?_
                refine AW.getI (pc' := 104) dX12_behind_101 ly_57 fX12_200 rfl (fun r101 => ?_)
                try simp only [hset_app, Nat.reduceEqDiff, false_and, and_false, true_and, and_true, reduceIte] at r101 ⊢
                refine AW.iconst (pc' := 105) dX12_behind_104 ?_
                refine AW.iadd (pc' := 106) dX12_behind_105 ?_
                refine AW.putI (pc' := 109) dX12_behind_106 ly_57 pX12_200 rfl (by first | assumption | omega | (constructor <;> omega) | (simp only [Int.toNat_natCast]; omega) | exact b2_in _) ?_
                refine AW.iconst (pc' := 110) dX12_behind_109 ?_
                refine AW.iret dX12_behind_110 ?_ ?_
                · refine congrArg (fun z : Int => (some (vI z) : Option AV)) ?_
                  unfold behF
                  rw [if_neg (by omega), if_pos (by omega), if_neg nq]
                · unfold behF
                  rw [if_neg (by omega), if_pos (by omega), if_neg nq]
                  first
                  | (exfalso; omega)
                  | (have e63 : b = 63 := by omega
                     subst e63
                     simp only [Int.reduceEq, reduceIte]
                     rw [← t3]
                     exact (((s55.emit 900).cnd 1).sset 0 rfl).at _)
                  | (have e59 : b = 59 := by omega
                     subst e59
                     simp only [Int.reduceEq, reduceIte]
                     rw [← t3]
                     exact (((s55.emit 901).cnd 0).sset 0 rfl).at _)
            · refine AW.sipush (pc' := 68) dX12_behind_65 (by decide) ?_
              refine AW.goto (tgt := 74) dX12_behind_68 ?_
              refine AW.invV1v (pc' := 77) dX12_behind_74 mlX12_193 mX12_emits ly_57 rfl (c_X12_emits (dep := dep - 1) (by omega) (by decide)) ?_
              refine AW.aload_n (pc' := 78) dX12_behind_77 rfl ?_
              refine AW.iload_n (pc' := 79) dX12_behind_78 rfl ?_
              refine AW.bipush (pc' := 81) dX12_behind_79 (by decide) ?_
              refine AW.icmp_ne (tgt := 88) (pc' := 84) dX12_behind_81 (by first | assumption | omega | (constructor <;> omega) | (simp only [Int.toNat_natCast]; omega) | exact b2_in _) (by first | assumption | omega | (constructor <;> omega) | (simp only [Int.toNat_natCast]; omega) | exact b2_in _) (fun c81 => ?_) (fun c81 => ?_)
              · refine AW.iconst (pc' := 89) dX12_behind_88 ?_
                refine AW.putZ (pc' := 92) dX12_behind_89 ly_57 pX12_219 rfl (by first | exact Or.inl rfl | exact Or.inr rfl | exact b2_01 _ | assumption) ?_
                refine AW.aload_n (pc' := 93) dX12_behind_92 rfl ?_
                refine AW.getR (pc' := 96) dX12_behind_93 ly_57 fX12_77 rfl ?_
                refine AW.iconst (pc' := 97) dX12_behind_96 ?_
                refine AW.iconst (pc' := 98) dX12_behind_97 ?_
                first | refine AW.iastN (pc' := 99) dX12_behind_98 ly_79 (by first | assumption | omega | (constructor <;> omega) | (simp only [Int.toNat_natCast]; omega) | exact b2_in _) (by decide) (by first | assumption | omega | (constructor <;> omega) | (simp only [Int.toNat_natCast]; omega) | exact b2_in _) ?_ | refine AW.iast (pc' := 99) dX12_behind_98 ly_79 (by first | assumption | omega | (constructor <;> omega) | (simp only [Int.toNat_natCast]; omega) | exact b2_in _) (by first | assumption | omega | (constructor <;> omega) | (simp only [Int.toNat_natCast]; omega) | exact b2_in _) (by decide) (by first | assumption | omega | (constructor <;> omega) | (simp only [Int.toNat_natCast]; omega) | exact b2_in _) ?_
                refine AW.aload_n (pc' := 100) dX12_behind_99 rfl ?_
                refine AW.dup (pc' := 101) dX12_behind_100 rfl ?_
                refine AW.getI (pc' := 104) dX12_behind_101 ly_57 fX12_200 rfl (fun r101 => ?_)
                try simp only [hset_app, Nat.reduceEqDiff, false_and, and_false, true_and, and_true, reduceIte] at r101 ⊢
                refine AW.iconst (pc' := 105) dX12_behind_104 ?_
                refine AW.iadd (pc' := 106) dX12_behind_105 ?_
                refine AW.putI (pc' := 109) dX12_behind_106 ly_57 pX12_200 rfl (by first | assumption | omega | (constructor <;> omega) | (simp only [Int.toNat_natCast]; omega) | exact b2_in _) ?_
                refine AW.iconst (pc' := 110) dX12_behind_109 ?_
                refine AW.iret dX12_behind_110 ?_ ?_
                · refine congrArg (fun z : Int => (some (vI z) : Option AV)) ?_
                  unfold behF
                  rw [if_neg (by omega), if_pos (by omega), if_neg nq]
                · unfold behF
                  rw [if_neg (by omega), if_pos (by omega), if_neg nq]
                  first
                  | (exfalso; omega)
                  | (have e63 : b = 63 := by omega
                     subst e63
                     simp only [Int.reduceEq, reduceIte]
                     rw [← t3]
                     exact (((s55.emit 900).cnd 1).sset 0 rfl).at _)
                  | (have e59 : b = 59 := by omega
                     subst e59
                     simp only [Int.reduceEq, reduceIte]
                     rw [← t3]
                     exact (((s55.emit 901).cnd 0).sset 0 rfl).at _)
              · refine AW.iconst (pc' := 85) dX12_behind_84 ?_
                refine AW.goto (tgt := 89) dX12_behind_85 ?_
                refine AW.putZ (pc' := 92) dX12_behind_89 ly_57 pX12_219 rfl (by first | exact Or.inl rfl | exact Or.inr rfl | exact b2_01 _ | assumption) ?_
                refine AW.aload_n (pc' := 93) dX12_behind_92 rfl ?_
                refine AW.getR (pc' := 96) dX12_behind_93 ly_57 fX12_77 rfl ?_
                refine AW.iconst (pc' := 97) dX12_behind_96 ?_
                refine AW.iconst (pc' := 98) dX12_behind_97 ?_
                first | refine AW.iastN (pc' := 99) dX12_behind_98 ly_79 (by first | assumption | omega | (constructor <;> omega) | (simp only [Int.toNat_natCast]; omega) | exact b2_in _) (by decide) (by first | assumption | omega | (constructor <;> omega) | (simp only [Int.toNat_natCast]; omega) | exact b2_in _) ?_ | refine AW.iast (pc' := 99) dX12_behind_98 ly_79 (by first | assumption | omega | (constructor <;> omega) | (simp only [Int.toNat_natCast]; omega) | exact b2_in _) (by first | assumption | omega | (constructor <;> omega) | (simp only [Int.toNat_natCast]; omega) | exact b2_in _) (by decide) (by first | assumption | omega | (constructor <;> omega) | (simp only [Int.toNat_natCast]; omega) | exact b2_in _) ?_
                refine AW.aload_n (pc' := 100) dX12_behind_99 rfl ?_
                refine AW.dup (pc' := 101) dX12_behind_100 rfl ?_
                refine AW.getI (pc' := 104) dX12_behind_101 ly_57 fX12_200 rfl (fun r101 => ?_)
                try simp only [hset_app, Nat.reduceEqDiff, false_and, and_false, true_and, and_true, reduceIte] at r101 ⊢
                refine AW.iconst (pc' := 105) dX12_behind_104 ?_
                refine AW.iadd (pc' := 106) dX12_behind_105 ?_
                refine AW.putI (pc' := 109) dX12_behind_106 ly_57 pX12_200 rfl (by first | assumption | omega | (constructor <;> omega) | (simp only [Int.toNat_natCast]; omega) | exact b2_in _) ?_
                refine AW.iconst (pc' := 110) dX12_behind_109 ?_
                refine AW.iret dX12_behind_110 ?_ ?_
                · refine congrArg (fun z : Int => (some (vI z) : Option AV)) ?_
                  unfold behF
                  rw [if_neg (by omega), if_pos (by omega), if_neg nq]
                · unfold behF
                  rw [if_neg (by omega), if_pos (by omega), if_neg nq]
                  first
                  | (exfalso; omega)
                  | (have e63 : b = 63 := by omega
                     subst e63
                     simp only [Int.reduceEq, reduceIte]
                     rw [← t3]
                     exact (((s55.emit 900).cnd 1).sset 0 rfl).at _)
                  | (have e59 : b = 59 := by omega
                     subst e59
                     simp only [Int.reduceEq, reduceIte]
                     rw [← t3]
                     exact (((s55.emit 901).cnd 0).sset 0 rfl).at _)
          · refine AW.aload_n (pc' := 45) dX12_behind_44 rfl ?_
            refine AW.getI (pc' := 48) dX12_behind_45 ly_57 fX12_219 rfl (fun r45 => ?_)
            refine AW.if_eq (tgt := 53) (pc' := 51) dX12_behind_48 (by first | assumption | omega | (constructor <;> omega) | (simp only [Int.toNat_natCast]; omega) | exact b2_in _) (fun c48 => ?_) (fun c48 => ?_)
            · have s0 : S = [] := Classical.byContradiction fun y => by
                have := sn.mp y
                omega
              have nq : ¬ (S ≠ [] ∨ b = 63 ∧ C = 1) := fun y => by
                rcases y with y | y
                · exact y s0
                · omega
              subst s0
              refine AW.aload_n (pc' := 54) dX12_behind_53 rfl ?_
              refine AW.iconst (pc' := 55) dX12_behind_54 ?_
              refine AW.invQ1v (pc' := 58) dX12_behind_55 mlX12_212 mX12_settles ly_57 rfl (c_X12_settles (dep := dep - 1) (by omega) ms (by omega) (by omega) (by decide)) (fun h55 s55 => ?_)
              have t3 := s55.2.2.1
              have t4 := s55.2.2.2.1
              refine AW.aload_n (pc' := 59) dX12_behind_58 rfl ?_
              refine AW.iload_n (pc' := 60) dX12_behind_59 rfl ?_
              refine AW.bipush (pc' := 62) dX12_behind_60 (by decide) ?_
              refine AW.icmp_ne (tgt := 71) (pc' := 65) dX12_behind_62 (by first | assumption | omega | (constructor <;> omega) | (simp only [Int.toNat_natCast]; omega) | exact b2_in _) (by first | assumption | omega | (constructor <;> omega) | (simp only [Int.toNat_natCast]; omega) | exact b2_in _) (fun c62 => ?_) (fun c62 => ?_)
              · refine AW.sipush (pc' := 74) dX12_behind_71 (by decide) ?_
                refine AW.invV1v (pc' := 77) dX12_behind_74 mlX12_193 mX12_emits ly_57 rfl (c_X12_emits (dep := dep - 1) (by omega) (by decide)) ?_
                refine AW.aload_n (pc' := 78) dX12_behind_77 rfl ?_
                refine AW.iload_n (pc' := 79) dX12_behind_78 rfl ?_
                refine AW.bipush (pc' := 81) dX12_behind_79 (by decide) ?_
                refine AW.icmp_ne (tgt := 88) (pc' := 84) dX12_behind_81 (by first | assumption | omega | (constructor <;> omega) | (simp only [Int.toNat_natCast]; omega) | exact b2_in _) (by first | assumption | omega | (constructor <;> omega) | (simp only [Int.toNat_natCast]; omega) | exact b2_in _) (fun c81 => ?_) (fun c81 => ?_)
                · refine AW.iconst (pc' := 89) dX12_behind_88 ?_
                  refine AW.putZ (pc' := 92) dX12_behind_89 ly_57 pX12_219 rfl (by first | exact Or.inl rfl | exact Or.inr rfl | exact b2_01 _ | assumption) ?_
                  refine AW.aload_n (pc' := 93) dX12_behind_92 rfl ?_
                  refine AW.getR (pc' := 96) dX12_behind_93 ly_57 fX12_77 rfl ?_
                  refine AW.iconst (pc' := 97) dX12_behind_96 ?_
                  refine AW.iconst (pc' := 98) dX12_behind_97 ?_
                  first | refine AW.iastN (pc' := 99) dX12_behind_98 ly_79 (by first | assumption | omega | (constructor <;> omega) | (simp only [Int.toNat_natCast]; omega) | exact b2_in _) (by decide) (by first | assumption | omega | (constructor <;> omega) | (simp only [Int.toNat_natCast]; omega) | exact b2_in _) ?_ | refine AW.iast (pc' := 99) dX12_behind_98 ly_79 (by first | assumption | omega | (constructor <;> omega) | (simp only [Int.toNat_natCast]; omega) | exact b2_in _) (by first | assumption | omega | (constructor <;> omega) | (simp only [Int.toNat_natCast]; omega) | exact b2_in _) (by decide) (by first | assumption | omega | (constructor <;> omega) | (simp only [Int.toNat_natCast]; omega) | exact b2_in _) ?_
                  refine AW.aload_n (pc' := 100) dX12_behind_99 rfl ?_
                  refine AW.dup (pc' := 101) dX12_behind_100 rfl ?_
                  refine AW.getI (pc' := 104) dX12_behind_101 ly_57 fX12_200 rfl (fun r101 => ?_)
                  try simp only [hset_app, Nat.reduceEqDiff, false_and, and_false, true_and, and_true, reduceIte] at r101 ⊢
                  refine AW.iconst (pc' := 105) dX12_behind_104 ?_
                  refine AW.iadd (pc' := 106) dX12_behind_105 ?_
                  refine AW.putI (pc' := 109) dX12_behind_106 ly_57 pX12_200 rfl (by first | assumption | omega | (constructor <;> omega) | (simp only [Int.toNat_natCast]; omega) | exact b2_in _) ?_
                  refine AW.iconst (pc' := 110) dX12_behind_109 ?_
                  refine AW.iret dX12_behind_110 ?_ ?_
                  · refine congrArg (fun z : Int => (some (vI z) : Option AV)) ?_
                    unfold behF
                    rw [if_neg (by omega), if_pos (by omega), if_neg nq]
                  · unfold behF
                    rw [if_neg (by omega), if_pos (by omega), if_neg nq]
                    first
                    | (exfalso; omega)
                    | (have e63 : b = 63 := by omega
                       subst e63
                       simp only [Int.reduceEq, reduceIte]
                       rw [← t3]
                       exact (((s55.emit 900).cnd 1).sset 0 rfl).at _)
                    | (have e59 : b = 59 := by omega
                       subst e59
                       simp only [Int.reduceEq, reduceIte]
                       rw [← t3]
                       exact (((s55.emit 901).cnd 0).sset 0 rfl).at _)
                · refine AW.iconst (pc' := 85) dX12_behind_84 ?_
                  refine AW.goto (tgt := 89) dX12_behind_85 ?_
                  refine AW.putZ (pc' := 92) dX12_behind_89 ly_57 pX12_219 rfl (by first | exact Or.inl rfl | exact Or.inr rfl | exact b2_01 _ | assumption) ?_
                  refine AW.aload_n (pc' := 93) dX12_behind_92 rfl ?_
                  refine AW.getR (pc' := 96) dX12_behind_93 ly_57 fX12_77 rfl ?_
                  refine AW.iconst (pc' := 97) dX12_behind_96 ?_
                  refine AW.iconst (pc' := 98) dX12_behind_97 ?_
                  first | refine AW.iastN (pc' := 99) dX12_behind_98 ly_79 (by first | assumption | omega | (constructor <;> omega) | (simp only [Int.toNat_natCast]; omega) | exact b2_in _) (by decide) (by first | assumption | omega | (constructor <;> omega) | (simp only [Int.toNat_natCast]; omega) | exact b2_in _) ?_ | refine AW.iast (pc' := 99) dX12_behind_98 ly_79 (by first | assumption | omega | (constructor <;> omega) | (simp only [Int.toNat_natCast]; omega) | exact b2_in _) (by first | assumption | omega | (constructor <;> omega) | (simp only [Int.toNat_natCast]; omega) | exact b2_in _) (by decide) (by first | assumption | omega | (constructor <;> omega) | (simp only [Int.toNat_natCast]; omega) | exact b2_in _) ?_
                  refine AW.aload_n (pc' := 100) dX12_behind_99 rfl ?_
                  refine AW.dup (pc' := 101) dX12_behind_100 rfl ?_
                  refine AW.getI (pc' := 104) dX12_behind_101 ly_57 fX12_200 rfl (fun r101 => ?_)
                  try simp only [hset_app, Nat.reduceEqDiff, false_and, and_false, true_and, and_true, reduceIte] at r101 ⊢
                  refine AW.iconst (pc' := 105) dX12_behind_104 ?_
                  refine AW.iadd (pc' := 106) dX12_behind_105 ?_
                  refine AW.putI (pc' := 109) dX12_behind_106 ly_57 pX12_200 rfl (by first | assumption | omega | (constructor <;> omega) | (simp only [Int.toNat_natCast]; omega) | exact b2_in _) ?_
                  refine AW.iconst (pc' := 110) dX12_behind_109 ?_
                  refine AW.iret dX12_behind_110 ?_ ?_
                  · refine congrArg (fun z : Int => (some (vI z) : Option AV)) ?_
                    unfold behF
                    rw [if_neg (by omega), if_pos (by omega), if_neg nq]
                  · unfold behF
                    rw [if_neg (by omega), if_pos (by omega), if_neg nq]
                    first
                    | (exfalso; omega)
                    | (have e63 : b = 63 := by omega
                       subst e63
                       simp only [Int.reduceEq, reduceIte]
                       rw [← t3]
                       exact (((s55.emit 900).cnd 1).sset 0 rfl).at _)
                    | (have e59 : b = 59 := by omega
                       subst e59
                       simp only [Int.reduceEq, reduceIte]
                       rw [← t3]
                       exact (((s55.emit 901).cnd 0).sset 0 rfl).at _)
              · refine AW.sipush (pc' := 68) dX12_behind_65 (by decide) ?_
                refine AW.goto (tgt := 74) dX12_behind_68 ?_
                refine AW.invV1v (pc' := 77) dX12_behind_74 mlX12_193 mX12_emits ly_57 rfl (c_X12_emits (dep := dep - 1) (by omega) (by decide)) ?_
                refine AW.aload_n (pc' := 78) dX12_behind_77 rfl ?_
                refine AW.iload_n (pc' := 79) dX12_behind_78 rfl ?_
                refine AW.bipush (pc' := 81) dX12_behind_79 (by decide) ?_
                refine AW.icmp_ne (tgt := 88) (pc' := 84) dX12_behind_81 (by first | assumption | omega | (constructor <;> omega) | (simp only [Int.toNat_natCast]; omega) | exact b2_in _) (by first | assumption | omega | (constructor <;> omega) | (simp only [Int.toNat_natCast]; omega) | exact b2_in _) (fun c81 => ?_) (fun c81 => ?_)
                · refine AW.iconst (pc' := 89) dX12_behind_88 ?_
                  refine AW.putZ (pc' := 92) dX12_behind_89 ly_57 pX12_219 rfl (by first | exact Or.inl rfl | exact Or.inr rfl | exact b2_01 _ | assumption) ?_
                  refine AW.aload_n (pc' := 93) dX12_behind_92 rfl ?_
                  refine AW.getR (pc' := 96) dX12_behind_93 ly_57 fX12_77 rfl ?_
                  refine AW.iconst (pc' := 97) dX12_behind_96 ?_
                  refine AW.iconst (pc' := 98) dX12_behind_97 ?_
                  first | refine AW.iastN (pc' := 99) dX12_behind_98 ly_79 (by first | assumption | omega | (constructor <;> omega) | (simp only [Int.toNat_natCast]; omega) | exact b2_in _) (by decide) (by first | assumption | omega | (constructor <;> omega) | (simp only [Int.toNat_natCast]; omega) | exact b2_in _) ?_ | refine AW.iast (pc' := 99) dX12_behind_98 ly_79 (by first | assumption | omega | (constructor <;> omega) | (simp only [Int.toNat_natCast]; omega) | exact b2_in _) (by first | assumption | omega | (constructor <;> omega) | (simp only [Int.toNat_natCast]; omega) | exact b2_in _) (by decide) (by first | assumption | omega | (constructor <;> omega) | (simp only [Int.toNat_natCast]; omega) | exact b2_in _) ?_
                  refine AW.aload_n (pc' := 100) dX12_behind_99 rfl ?_
                  refine AW.dup (pc' := 101) dX12_behind_100 rfl ?_
                  refine AW.getI (pc' := 104) dX12_behind_101 ly_57 fX12_200 rfl (fun r101 => ?_)
                  try simp only [hset_app, Nat.reduceEqDiff, false_and, and_false, true_and, and_true, reduceIte] at r101 ⊢
                  refine AW.iconst (pc' := 105) dX12_behind_104 ?_
                  refine AW.iadd (pc' := 106) dX12_behind_105 ?_
                  refine AW.putI (pc' := 109) dX12_behind_106 ly_57 pX12_200 rfl (by first | assumption | omega | (constructor <;> omega) | (simp only [Int.toNat_natCast]; omega) | exact b2_in _) ?_
                  refine AW.iconst (pc' := 110) dX12_behind_109 ?_
                  refine AW.iret dX12_behind_110 ?_ ?_
                  · refine congrArg (fun z : Int => (some (vI z) : Option AV)) ?_
                    unfold behF
                    rw [if_neg (by omega), if_pos (by omega), if_neg nq]
                  · unfold behF
                    rw [if_neg (by omega), if_pos (by omega), if_neg nq]
                    first
                    | (exfalso; omega)
                    | (have e63 : b = 63 := by omega
                       subst e63
                       simp only [Int.reduceEq, reduceIte]
                       rw [← t3]
                       exact (((s55.emit 900).cnd 1).sset 0 rfl).at _)
                    | (have e59 : b = 59 := by omega
                       subst e59
                       simp only [Int.reduceEq, reduceIte]
                       rw [← t3]
                       exact (((s55.emit 901).cnd 0).sset 0 rfl).at _)
                · refine AW.iconst (pc' := 85) dX12_behind_84 ?_
                  refine AW.goto (tgt := 89) dX12_behind_85 ?_
                  refine AW.putZ (pc' := 92) dX12_behind_89 ly_57 pX12_219 rfl (by first | exact Or.inl rfl | exact Or.inr rfl | exact b2_01 _ | assumption) ?_
                  refine AW.aload_n (pc' := 93) dX12_behind_92 rfl ?_
                  refine AW.getR (pc' := 96) dX12_behind_93 ly_57 fX12_77 rfl ?_
                  refine AW.iconst (pc' := 97) dX12_behind_96 ?_
                  refine AW.iconst (pc' := 98) dX12_behind_97 ?_
                  first | refine AW.iastN (pc' := 99) dX12_behind_98 ly_79 (by first | assumption | omega | (constructor <;> omega) | (simp only [Int.toNat_natCast]; omega) | exact b2_in _) (by decide) (by first | assumption | omega | (constructor <;> omega) | (simp only [Int.toNat_natCast]; omega) | exact b2_in _) ?_ | refine AW.iast (pc' := 99) dX12_behind_98 ly_79 (by first | assumption | omega | (constructor <;> omega) | (simp only [Int.toNat_natCast]; omega) | exact b2_in _) (by first | assumption | omega | (constructor <;> omega) | (simp only [Int.toNat_natCast]; omega) | exact b2_in _) (by decide) (by first | assumption | omega | (constructor <;> omega) | (simp only [Int.toNat_natCast]; omega) | exact b2_in _) ?_
                  refine AW.aload_n (pc' := 100) dX12_behind_99 rfl ?_
                  refine AW.dup (pc' := 101) dX12_behind_100 rfl ?_
                  refine AW.getI (pc' := 104) dX12_behind_101 ly_57 fX12_200 rfl (fun r101 => ?_)
                  try simp only [hset_app, Nat.reduceEqDiff, false_and, and_false, true_and, and_true, reduceIte] at r101 ⊢
                  refine AW.iconst (pc' := 105) dX12_behind_104 ?_
                  refine AW.iadd (pc' := 106) dX12_behind_105 ?_
                  refine AW.putI (pc' := 109) dX12_behind_106 ly_57 pX12_200 rfl (by first | assumption | omega | (constructor <;> omega) | (simp only [Int.toNat_natCast]; omega) | exact b2_in _) ?_
                  refine AW.iconst (pc' := 110) dX12_behind_109 ?_
                  refine AW.iret dX12_behind_110 ?_ ?_
                  · refine congrArg (fun z : Int => (some (vI z) : Option AV)) ?_
                    unfold behF
                    rw [if_neg (by omega), if_pos (by omega), if_neg nq]
                  · unfold behF
                    rw [if_neg (by omega), if_pos (by omega), if_neg nq]
                    first
                    | (exfalso; omega)
                    | (have e63 : b = 63 := by omega
                       subst e63
                       simp only [Int.reduceEq, reduceIte]
                       rw [← t3]
                       exact (((s55.emit 900).cnd 1).sset 0 rfl).at _)
                    | (have e59 : b = 59 := by omega
                       subst e59
                       simp only [Int.reduceEq, reduceIte]
                       rw [← t3]
                       exact (((s55.emit 901).cnd 0).sset 0 rfl).at _)
            · have yq : S ≠ [] ∨ b = 63 ∧ C = 1 := by
                by_cases y : S = []
                · right; rw [y] at sp1; simp only [List.length_nil] at sp1; omega
                · exact Or.inl y
              refine AW.iconst (pc' := 52) dX12_behind_51 ?_
              refine AW.iret dX12_behind_52 ?_ ?_
              · refine congrArg (fun z : Int => (some (vI z) : Option AV)) ?_
                unfold behF
                rw [if_neg (by omega), if_pos (by omega), if_pos yq]
              · unfold behF
                rw [if_neg (by omega), if_pos (by omega), if_pos yq]
                exact ms
  · omega
theorem c_X12_behindAll {K : KT} {dep : Nat} {h g : Hp} {base : Nat} {A O C s b : Int} {P T S : List Int} (hd : 3 ≤ dep) (ms : MS g base A P T O (s :: S) C h) (qw : WFr (h 57 29) (A, (P, (T, (O, (s :: S, C)))))) (qb : base ≤ 400) (ib : inI b) : AMp K yX12_behind cX12_behind 3 (some .int) dep [vR 57, vI b] h (some (vI (behF A P T O s S C b).1)) (fun x => MSt g base (behF A P T O s S C b).2 x) := by
  by_cases hb : b = 41
  · cases S with
    | nil =>
      have z := c_X12_behindA (K := K) hd ms qw qb ib hb
      have e : behF A P T O s [] C b = (-1, (A, (P, (T, (O, ([s], C)))))) := by unfold behF; rw [if_pos hb, if_pos rfl]
      rw [e]
      exact z
    | cons r S =>
      have z := c_X12_behindB (K := K) hd ms qw qb ib hb
      have e : behF A P T O s (r :: S) C b = (0, clF A P T O (r :: S) C) := by unfold behF; rw [if_pos hb, if_neg (by simp)]
      rw [e]
      exact z
  · exact c_X12_behindC hd ms qw qb ib hb
