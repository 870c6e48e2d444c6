/-! the class: spread, needed; shelves, belt, changes: small ones of both -/
theorem spX_in {h : Hp} (hI : IXa h) (hQ : PO (h 12 10) (h 18)) {mean : Int} (hm : -12000000 ≤ mean ∧ mean ≤ 1000) : ∀ (n k : Nat) (s : Int), k + n = (h 12 10 - 1).toNat → 0 ≤ s → s ≤ 400000000000000 * (k : Int) → 0 ≤ lp (spX h mean) n k s ∧ lp (spX h mean) n k s ≤ 400000000000000 * ((k + n : Nat) : Int)
  | 0, k, s, hk, h0, h1 => ⟨h0, h1⟩
  | n + 1, k, s, hk, h0, h1 => by
    have o1 := hQ k (by omega)
    have o2 := hQ (k + 1) (by omega)
    have gg := gainF_in hI.2.2.2 hI.2.2.1 (a := (h 18 k).toNat) (b := (h 18 (k + 1)).toNat) (by omega) (by omega)
    have sq := sq_in (d := gainF (lvX h) (h 18 k).toNat (h 18 (k + 1)).toNat - mean) (by simp only [lvX]; omega) (by simp only [lvX]; omega)
    have z : 0 ≤ spX h mean k s ∧ spX h mean k s ≤ 400000000000000 * ((k + 1 : Nat) : Int) := by
      unfold spX
      split
      · push_cast; omega
      · push_cast; omega
    have q := spX_in hI hQ hm n (k + 1) (spX h mean k s) (by omega) z.1 z.2
    rw [show k + (n + 1) = k + 1 + n by omega]
    exact q
set_option maxRecDepth 100000 in
set_option maxHeartbeats 4000000 in
theorem c_X2_spread {K : KT} {dep : Nat} {h : Hp}  (hd : 4 ≤ dep) (hI : IXa h) (hQ : PO (h 12 10) (h 18)) (q0 : PI (h 37 2, h 36 2) 120) (q1 : h 37 2 ≠ 0) : AM K yX2_spread cX2_spread 10 (some .long) dep [vR 35] h (some (vL ((lp (spX h (meanP (h 37 2, h 36 2))) (h 12 10 - 1).toNat 0 0).tdiv (h 37 2)))) (h) := by
  refine AM.of (own := RX2) (ls := [some (vR 35), none, none, none, none, none, none, none, none, none]) rfl (by decide +kernel) (by exact Nat.le_of_ble_eq_true rfl) rfl (fun hO => ?_)
  have g6 := hI.2.2.2.1
  have g7 := hI.2.2.2.2.1
  have g8 := hI.2.1.2.1
  have mm := meanP_in q0 (by decide)
  have mm2 : -12000000 ≤ meanP (h 37 2, h 36 2) ∧ meanP (h 37 2, h 36 2) ≤ 1000 := by
    rcases mm with z | z
    · exact absurd z.1 q1
    · exact z.2
  have ub := spX_in hI hQ mm2 (h 12 10 - 1).toNat 0 0 (by omega) (by omega) (by omega)
  have p1 := q0.1
  have p2 := q0.2.1
  simp only at p1 p2
  refine AW.aload_n (pc' := 1) dX2_spread_0 rfl ?_
  refine AW.iconst (pc' := 2) dX2_spread_1 ?_
  refine AW.invV1 (pc' := 5) dX2_spread_2 mlX2_74 mX2_mean ly_35 rfl (c_X2_mean (dep := dep - 1) (by first | assumption | omega | (constructor <;> omega) | (simp only [Int.toNat_natCast]; omega) | exact b2_in _) (by first | assumption | omega | (constructor <;> omega) | (simp only [Int.toNat_natCast]; omega) | exact b2_in _) (by first | assumption | omega | (constructor <;> omega) | (simp only [Int.toNat_natCast]; omega) | exact b2_in _)) ?_
  try simp only [Int.toNat_natCast, Int.reduceToNat]
  refine AW.i2l (pc' := 6) dX2_spread_5 (by first | assumption | omega | (constructor <;> omega) | (simp only [Int.toNat_natCast]; omega) | exact b2_in _) ?_
  refine AW.lstore1n (pc' := 7) dX2_spread_6 (by decide) rfl ?_
  refine AW.lconst_0 (pc' := 8) dX2_spread_7 ?_
  refine AW.lstore3n (pc' := 9) dX2_spread_8 (by decide) rfl ?_
  refine AW.iconst (pc' := 10) dX2_spread_9 ?_
  refine AW.istore5 (pc' := 12) dX2_spread_10 (by decide) rfl ?_
  refine AW.weak (lp_X2_spread hI hQ (Or.inl mm2) hd (h 12 10 - 1).toNat 0 0 (by omega) (fun _ => trivial) ?_) (by (repeat' first | exact LSub.e | refine LSub.n ?_ | refine LSub.c ?_ ?_) <;> first | rfl | exact congrArg Sum.inl (by first | rfl | omega | omega))
  refine AW.aload_n (pc' := 101) dX2_spread_100 rfl ?_
  refine AW.getR (pc' := 104) dX2_spread_101 ly_35 fX2_22 rfl ?_
  refine AW.iconst (pc' := 105) dX2_spread_104 ?_
  first | refine AW.ialdN (pc' := 106) dX2_spread_105 ly_37 (by first | assumption | omega | (constructor <;> omega) | (simp only [Int.toNat_natCast]; omega) | exact b2_in _) (by decide) (fun r105 => ?_) | refine AW.iald (pc' := 106) dX2_spread_105 ly_37 (by first | assumption | omega | (constructor <;> omega) | (simp only [Int.toNat_natCast]; omega) | exact b2_in _) (by first | assumption | omega | (constructor <;> omega) | (simp only [Int.toNat_natCast]; omega) | exact b2_in _) (by decide) (fun r105 => ?_)
  try simp only [Int.reduceToNat] at r105 ⊢
  refine AW.if_ne (tgt := 113) (pc' := 109) dX2_spread_106 (by first | assumption | omega | (constructor <;> omega) | (simp only [Int.toNat_natCast]; omega) | exact b2_in _) (fun c106 => ?_) (fun c106 => ?_)
  · refine AW.lload_n (pc' := 114) dX2_spread_113 rfl ?_
    refine AW.aload_n (pc' := 115) dX2_spread_114 rfl ?_
    refine AW.getR (pc' := 118) dX2_spread_115 ly_35 fX2_22 rfl ?_
    refine AW.iconst (pc' := 119) dX2_spread_118 ?_
    first | refine AW.ialdN (pc' := 120) dX2_spread_119 ly_37 (by first | assumption | omega | (constructor <;> omega) | (simp only [Int.toNat_natCast]; omega) | exact b2_in _) (by decide) (fun r119 => ?_) | refine AW.iald (pc' := 120) dX2_spread_119 ly_37 (by first | assumption | omega | (constructor <;> omega) | (simp only [Int.toNat_natCast]; omega) | exact b2_in _) (by first | assumption | omega | (constructor <;> omega) | (simp only [Int.toNat_natCast]; omega) | exact b2_in _) (by decide) (fun r119 => ?_)
    try simp only [Int.reduceToNat] at r119 ⊢
    refine AW.i2l (pc' := 121) dX2_spread_120 (by first | assumption | omega | (constructor <;> omega) | (simp only [Int.toNat_natCast]; omega) | exact b2_in _) ?_
    refine AW.ldiv (pc' := 122) dX2_spread_121 (by first | assumption | omega | (constructor <;> omega) | (simp only [Int.toNat_natCast]; omega) | exact b2_in _) (by first | assumption | omega | (constructor <;> omega) | (simp only [Int.toNat_natCast]; omega) | exact b2_in _) (by first | assumption | omega | (constructor <;> omega) | (simp only [Int.toNat_natCast]; omega) | exact b2_in _) ?_
    refine AW.lret dX2_spread_122 ?_ ?_
    · first | rfl | omega
    · rfl
  · refine AW.lconst_0 (pc' := 110) dX2_spread_109 ?_
    refine AW.goto (tgt := 122) dX2_spread_110 ?_
    refine AW.lret dX2_spread_122 ?_ ?_
    · first | rfl | omega
    · rfl
set_option maxRecDepth 100000 in
set_option maxHeartbeats 4000000 in
theorem c_X8_refuses {K : KT} {dep : Nat} {h : Hp} {a b : Int} (hd : 1 ≤ dep) (q0 : inI a) (q1 : inI b) : AM K yX8_refuses cX8_refuses 3 (some .int) dep [vR 46, vI a, vI b] h (some (vI (if ¬ (0 ≤ a ∧ a < 6) then -1 else if h 47 a.toNat = 6 then -11 else if h 47 a.toNat = 5 then -12 else if 0 ≤ b ∧ b + 1 ≤ h 49 a.toNat then 0 else -13))) (h) := by
  refine AM.of (own := RX8) (ls := [some (vR 46), some (vI a), some (vI b)]) rfl (by decide +kernel) (by exact Nat.le_of_ble_eq_true rfl) rfl (fun hO => ?_)
  refine AW.aload_n (pc' := 1) dX8_refuses_0 rfl ?_
  refine AW.iload_n (pc' := 2) dX8_refuses_1 rfl ?_
  refine AW.invV1 (pc' := 5) dX8_refuses_2 mlX8_26 mX8_has ly_46 rfl (c_X8_has (dep := dep - 1) (by first | assumption | omega | (constructor <;> omega) | (simp only [Int.toNat_natCast]; omega) | exact b2_in _)) ?_
  refine AW.ifb_ne (tgt := 10) (pc' := 8) dX8_refuses_5 (fun c5 => ?_) (fun c5 => ?_)
  · refine AW.aload_n (pc' := 11) dX8_refuses_10 rfl ?_
    refine AW.getR (pc' := 14) dX8_refuses_11 ly_46 fX8_9 rfl ?_
    refine AW.iload_n (pc' := 15) dX8_refuses_14 rfl ?_
    first | refine AW.ialdN (pc' := 16) dX8_refuses_15 ly_47 (by first | assumption | omega | (constructor <;> omega) | (simp only [Int.toNat_natCast]; omega) | exact b2_in _) (by decide) (fun r15 => ?_) | refine AW.iald (pc' := 16) dX8_refuses_15 ly_47 (by first | assumption | omega | (constructor <;> omega) | (simp only [Int.toNat_natCast]; omega) | exact b2_in _) (by first | assumption | omega | (constructor <;> omega) | (simp only [Int.toNat_natCast]; omega) | exact b2_in _) (by decide) (fun r15 => ?_)
    refine AW.bipush (pc' := 18) dX8_refuses_16 (by decide) ?_
    refine AW.icmp_ne (tgt := 24) (pc' := 21) dX8_refuses_18 (by first | assumption | omega | (constructor <;> omega) | (simp only [Int.toNat_natCast]; omega) | exact b2_in _) (by first | assumption | omega | (constructor <;> omega) | (simp only [Int.toNat_natCast]; omega) | exact b2_in _) (fun c18 => ?_) (fun c18 => ?_)
    · refine AW.aload_n (pc' := 25) dX8_refuses_24 rfl ?_
      refine AW.getR (pc' := 28) dX8_refuses_25 ly_46 fX8_9 rfl ?_
      refine AW.iload_n (pc' := 29) dX8_refuses_28 rfl ?_
      first | refine AW.ialdN (pc' := 30) dX8_refuses_29 ly_47 (by first | assumption | omega | (constructor <;> omega) | (simp only [Int.toNat_natCast]; omega) | exact b2_in _) (by decide) (fun r29 => ?_) | refine AW.iald (pc' := 30) dX8_refuses_29 ly_47 (by first | assumption | omega | (constructor <;> omega) | (simp only [Int.toNat_natCast]; omega) | exact b2_in _) (by first | assumption | omega | (constructor <;> omega) | (simp only [Int.toNat_natCast]; omega) | exact b2_in _) (by decide) (fun r29 => ?_)
      refine AW.iconst (pc' := 31) dX8_refuses_30 ?_
      refine AW.icmp_ne (tgt := 37) (pc' := 34) dX8_refuses_31 (by first | assumption | omega | (constructor <;> omega) | (simp only [Int.toNat_natCast]; omega) | exact b2_in _) (by first | assumption | omega | (constructor <;> omega) | (simp only [Int.toNat_natCast]; omega) | exact b2_in _) (fun c31 => ?_) (fun c31 => ?_)
      · refine AW.aload_n (pc' := 38) dX8_refuses_37 rfl ?_
        refine AW.iload_n (pc' := 39) dX8_refuses_38 rfl ?_
        refine AW.iload_n (pc' := 40) dX8_refuses_39 rfl ?_
        refine AW.iconst (pc' := 41) dX8_refuses_40 ?_
        refine AW.invV3 (pc' := 44) dX8_refuses_41 mlX8_30 mX8_reaches ly_46 rfl (c_X8_reaches (dep := dep - 1) (by first | assumption | omega | (constructor <;> omega) | (simp only [Int.toNat_natCast]; omega) | exact b2_in _) (by first | assumption | omega | (constructor <;> omega) | (simp only [Int.toNat_natCast]; omega) | exact b2_in _) (by first | assumption | omega | (constructor <;> omega) | (simp only [Int.toNat_natCast]; omega) | exact b2_in _)) ?_
        refine AW.ifb_eq (tgt := 51) (pc' := 47) dX8_refuses_44 (fun c44 => ?_) (fun c44 => ?_)
        · refine AW.bipush (pc' := 53) dX8_refuses_51 (by decide) ?_
          refine AW.iret dX8_refuses_53 ?_ ?_
          all_goals first | rfl | exact congrArg (fun z : Int => (some (vI z) : Option AV)) (b2_t (by omega)) | exact congrArg (fun z : Int => (some (vI z) : Option AV)) (b2_f (by omega)) | ((repeat' split) <;> first | rfl | omega) | (refine congrArg (fun z : Int => (some (vI z) : Option AV)) ?_; (repeat' split) <;> first | rfl | omega)
        · refine AW.iconst (pc' := 48) dX8_refuses_47 ?_
          refine AW.goto (tgt := 53) dX8_refuses_48 ?_
          refine AW.iret dX8_refuses_53 ?_ ?_
          all_goals first | rfl | exact congrArg (fun z : Int => (some (vI z) : Option AV)) (b2_t (by omega)) | exact congrArg (fun z : Int => (some (vI z) : Option AV)) (b2_f (by omega)) | ((repeat' split) <;> first | rfl | omega) | (refine congrArg (fun z : Int => (some (vI z) : Option AV)) ?_; (repeat' split) <;> first | rfl | omega)
      · refine AW.bipush (pc' := 36) dX8_refuses_34 (by decide) ?_
        refine AW.iret dX8_refuses_36 ?_ ?_
        all_goals first | rfl | exact congrArg (fun z : Int => (some (vI z) : Option AV)) (b2_t (by omega)) | exact congrArg (fun z : Int => (some (vI z) : Option AV)) (b2_f (by omega)) | ((repeat' split) <;> first | rfl | omega) | (refine congrArg (fun z : Int => (some (vI z) : Option AV)) ?_; (repeat' split) <;> first | rfl | omega)
    · refine AW.bipush (pc' := 23) dX8_refuses_21 (by decide) ?_
      refine AW.iret dX8_refuses_23 ?_ ?_
      all_goals first | rfl | exact congrArg (fun z : Int => (some (vI z) : Option AV)) (b2_t (by omega)) | exact congrArg (fun z : Int => (some (vI z) : Option AV)) (b2_f (by omega)) | ((repeat' split) <;> first | rfl | omega) | (refine congrArg (fun z : Int => (some (vI z) : Option AV)) ?_; (repeat' split) <;> first | rfl | omega)
  · refine AW.iconst (pc' := 9) dX8_refuses_8 ?_
    refine AW.iret dX8_refuses_9 ?_ ?_
    all_goals first | rfl | exact congrArg (fun z : Int => (some (vI z) : Option AV)) (b2_t (by omega)) | exact congrArg (fun z : Int => (some (vI z) : Option AV)) (b2_f (by omega)) | ((repeat' split) <;> first | rfl | omega) | (refine congrArg (fun z : Int => (some (vI z) : Option AV)) ?_; (repeat' split) <;> first | rfl | omega)
set_option maxRecDepth 100000 in
set_option maxHeartbeats 4000000 in
theorem c_X12_why {K : KT} {dep : Nat} {h : Hp} {a b : Int} (hd : 1 ≤ dep) (q0 : inI a) (q1 : inI b) : AM K yX12_why cX12_why 3 (some .int) dep [vR 57, vI a, vI b] h (some (vI (if ¬ (0 ≤ a ∧ a < 6) then -1 else if h 86 a.toNat = -2 then -11 else if h 86 a.toNat = -1 then -12 else if 0 ≤ b ∧ b < h 88 a.toNat then 1 else -13))) (h) := by
  refine AM.of (own := RX12) (ls := [some (vR 57), some (vI a), some (vI b)]) rfl (by decide +kernel) (by exact Nat.le_of_ble_eq_true rfl) rfl (fun hO => ?_)
  refine AW.iload_n (pc' := 1) dX12_why_0 rfl ?_
  refine AW.invS1 (pc' := 4) dX12_why_1 mlX12_360 mX12_isShelf (c_X12_isShelf (dep := dep - 1) (by first | assumption | omega | (constructor <;> omega) | (simp only [Int.toNat_natCast]; omega) | exact b2_in _)) ?_
  refine AW.ifb_ne (tgt := 9) (pc' := 7) dX12_why_4 (fun c4 => ?_) (fun c4 => ?_)
  · refine AW.aload_n (pc' := 10) dX12_why_9 rfl ?_
    refine AW.getR (pc' := 13) dX12_why_10 ly_57 fX12_98 rfl ?_
    refine AW.iload_n (pc' := 14) dX12_why_13 rfl ?_
    first | refine AW.ialdN (pc' := 15) dX12_why_14 ly_86 (by first | assumption | omega | (constructor <;> omega) | (simp only [Int.toNat_natCast]; omega) | exact b2_in _) (by decide) (fun r14 => ?_) | refine AW.iald (pc' := 15) dX12_why_14 ly_86 (by first | assumption | omega | (constructor <;> omega) | (simp only [Int.toNat_natCast]; omega) | exact b2_in _) (by first | assumption | omega | (constructor <;> omega) | (simp only [Int.toNat_natCast]; omega) | exact b2_in _) (by decide) (fun r14 => ?_)
    refine AW.bipush (pc' := 17) dX12_why_15 (by decide) ?_
    refine AW.icmp_ne (tgt := 23) (pc' := 20) dX12_why_17 (by first | assumption | omega | (constructor <;> omega) | (simp only [Int.toNat_natCast]; omega) | exact b2_in _) (by first | assumption | omega | (constructor <;> omega) | (simp only [Int.toNat_natCast]; omega) | exact b2_in _) (fun c17 => ?_) (fun c17 => ?_)
    · refine AW.aload_n (pc' := 24) dX12_why_23 rfl ?_
      refine AW.getR (pc' := 27) dX12_why_24 ly_57 fX12_98 rfl ?_
      refine AW.iload_n (pc' := 28) dX12_why_27 rfl ?_
      first | refine AW.ialdN (pc' := 29) dX12_why_28 ly_86 (by first | assumption | omega | (constructor <;> omega) | (simp only [Int.toNat_natCast]; omega) | exact b2_in _) (by decide) (fun r28 => ?_) | refine AW.iald (pc' := 29) dX12_why_28 ly_86 (by first | assumption | omega | (constructor <;> omega) | (simp only [Int.toNat_natCast]; omega) | exact b2_in _) (by first | assumption | omega | (constructor <;> omega) | (simp only [Int.toNat_natCast]; omega) | exact b2_in _) (by decide) (fun r28 => ?_)
      refine AW.iconst (pc' := 30) dX12_why_29 ?_
      refine AW.icmp_ne (tgt := 36) (pc' := 33) dX12_why_30 (by first | assumption | omega | (constructor <;> omega) | (simp only [Int.toNat_natCast]; omega) | exact b2_in _) (by first | assumption | omega | (constructor <;> omega) | (simp only [Int.toNat_natCast]; omega) | exact b2_in _) (fun c30 => ?_) (fun c30 => ?_)
      · refine AW.iload_n (pc' := 37) dX12_why_36 rfl ?_
        refine AW.if_lt (tgt := 54) (pc' := 40) dX12_why_37 (by first | assumption | omega | (constructor <;> omega) | (simp only [Int.toNat_natCast]; omega) | exact b2_in _) (fun c37 => ?_) (fun c37 => ?_)
        · refine AW.bipush (pc' := 56) dX12_why_54 (by decide) ?_
          refine AW.iret dX12_why_56 ?_ ?_
          all_goals first | rfl | exact congrArg (fun z : Int => (some (vI z) : Option AV)) (b2_t (by omega)) | exact congrArg (fun z : Int => (some (vI z) : Option AV)) (b2_f (by omega)) | ((repeat' split) <;> first | rfl | omega) | (refine congrArg (fun z : Int => (some (vI z) : Option AV)) ?_; (repeat' split) <;> first | rfl | omega)
        · refine AW.iload_n (pc' := 41) dX12_why_40 rfl ?_
          refine AW.aload_n (pc' := 42) dX12_why_41 rfl ?_
          refine AW.getR (pc' := 45) dX12_why_42 ly_57 fX12_104 rfl ?_
          refine AW.iload_n (pc' := 46) dX12_why_45 rfl ?_
          first | refine AW.ialdN (pc' := 47) dX12_why_46 ly_88 (by first | assumption | omega | (constructor <;> omega) | (simp only [Int.toNat_natCast]; omega) | exact b2_in _) (by decide) (fun r46 => ?_) | refine AW.iald (pc' := 47) dX12_why_46 ly_88 (by first | assumption | omega | (constructor <;> omega) | (simp only [Int.toNat_natCast]; omega) | exact b2_in _) (by first | assumption | omega | (constructor <;> omega) | (simp only [Int.toNat_natCast]; omega) | exact b2_in _) (by decide) (fun r46 => ?_)
          refine AW.icmp_ge (tgt := 54) (pc' := 50) dX12_why_47 (by first | assumption | omega | (constructor <;> omega) | (simp only [Int.toNat_natCast]; omega) | exact b2_in _) (by first | assumption | omega | (constructor <;> omega) | (simp only [Int.toNat_natCast]; omega) | exact b2_in _) (fun c47 => ?_) (fun c47 => ?_)
          · refine AW.bipush (pc' := 56) dX12_why_54 (by decide) ?_
            refine AW.iret dX12_why_56 ?_ ?_
            all_goals first | rfl | exact congrArg (fun z : Int => (some (vI z) : Option AV)) (b2_t (by omega)) | exact congrArg (fun z : Int => (some (vI z) : Option AV)) (b2_f (by omega)) | ((repeat' split) <;> first | rfl | omega) | (refine congrArg (fun z : Int => (some (vI z) : Option AV)) ?_; (repeat' split) <;> first | rfl | omega)
          · refine AW.iconst (pc' := 51) dX12_why_50 ?_
            refine AW.goto (tgt := 56) dX12_why_51 ?_
            refine AW.iret dX12_why_56 ?_ ?_
            all_goals first | rfl | exact congrArg (fun z : Int => (some (vI z) : Option AV)) (b2_t (by omega)) | exact congrArg (fun z : Int => (some (vI z) : Option AV)) (b2_f (by omega)) | ((repeat' split) <;> first | rfl | omega) | (refine congrArg (fun z : Int => (some (vI z) : Option AV)) ?_; (repeat' split) <;> first | rfl | omega)
      · refine AW.bipush (pc' := 35) dX12_why_33 (by decide) ?_
        refine AW.iret dX12_why_35 ?_ ?_
        all_goals first | rfl | exact congrArg (fun z : Int => (some (vI z) : Option AV)) (b2_t (by omega)) | exact congrArg (fun z : Int => (some (vI z) : Option AV)) (b2_f (by omega)) | ((repeat' split) <;> first | rfl | omega) | (refine congrArg (fun z : Int => (some (vI z) : Option AV)) ?_; (repeat' split) <;> first | rfl | omega)
    · refine AW.bipush (pc' := 22) dX12_why_20 (by decide) ?_
      refine AW.iret dX12_why_22 ?_ ?_
      all_goals first | rfl | exact congrArg (fun z : Int => (some (vI z) : Option AV)) (b2_t (by omega)) | exact congrArg (fun z : Int => (some (vI z) : Option AV)) (b2_f (by omega)) | ((repeat' split) <;> first | rfl | omega) | (refine congrArg (fun z : Int => (some (vI z) : Option AV)) ?_; (repeat' split) <;> first | rfl | omega)
  · refine AW.iconst (pc' := 8) dX12_why_7 ?_
    refine AW.iret dX12_why_8 ?_ ?_
    all_goals first | rfl | exact congrArg (fun z : Int => (some (vI z) : Option AV)) (b2_t (by omega)) | exact congrArg (fun z : Int => (some (vI z) : Option AV)) (b2_f (by omega)) | ((repeat' split) <;> first | rfl | omega) | (refine congrArg (fun z : Int => (some (vI z) : Option AV)) ?_; (repeat' split) <;> first | rfl | omega)
set_option maxRecDepth 100000 in
set_option maxHeartbeats 4000000 in
theorem c_X12_keep {K : KT} {dep : Nat} {h : Hp} {a b : Int} (hd : 1 ≤ dep) (qb : 0 ≤ h 57 52) (q1 : inI a) (q2 : inI b) : AM K yX12_keep cX12_keep 3 (some .int) dep [vR 57, vI a, vI b] h (some (vI (if ¬ (0 ≤ a ∧ a < 6) ∨ b < -1 ∨ h 57 52 ≤ b then -1 else 1))) (if ¬ (0 ≤ a ∧ a < 6) ∨ b < -1 ∨ h 57 52 ≤ b then h else hset (hset h 86 a.toNat (if b = -1 then -2 else -1)) 87 a.toNat b) := by
  refine AM.of (own := RX12) (ls := [some (vR 57), some (vI a), some (vI b)]) rfl (by decide +kernel) (by exact Nat.le_of_ble_eq_true rfl) rfl (fun hO => ?_)
  refine AW.iload_n (pc' := 1) dX12_keep_0 rfl ?_
  refine AW.invS1 (pc' := 4) dX12_keep_1 mlX12_360 mX12_isShelf (c_X12_isShelf (dep := dep - 1) (by first | assumption | omega | (constructor <;> omega) | (simp only [Int.toNat_natCast]; omega) | exact b2_in _)) ?_
  refine AW.ifb_eq (tgt := 20) (pc' := 7) dX12_keep_4 (fun c4 => ?_) (fun c4 => ?_)
  · refine AW.iconst (pc' := 21) dX12_keep_20 ?_
    refine AW.iret dX12_keep_21 ?_ ?_
    all_goals first | rfl | exact congrArg (fun z : Int => (some (vI z) : Option AV)) (b2_t (by omega)) | exact congrArg (fun z : Int => (some (vI z) : Option AV)) (b2_f (by omega)) | ((repeat' split) <;> first | rfl | omega) | (refine congrArg (fun z : Int => (some (vI z) : Option AV)) ?_; (repeat' split) <;> first | rfl | omega)
  · refine AW.iload_n (pc' := 8) dX12_keep_7 rfl ?_
    refine AW.iconst (pc' := 9) dX12_keep_8 ?_
    refine AW.icmp_lt (tgt := 20) (pc' := 12) dX12_keep_9 (by first | assumption | omega | (constructor <;> omega) | (simp only [Int.toNat_natCast]; omega) | exact b2_in _) (by first | assumption | omega | (constructor <;> omega) | (simp only [Int.toNat_natCast]; omega) | exact b2_in _) (fun c9 => ?_) (fun c9 => ?_)
    · refine AW.iconst (pc' := 21) dX12_keep_20 ?_
      refine AW.iret dX12_keep_21 ?_ ?_
      all_goals first | rfl | exact congrArg (fun z : Int => (some (vI z) : Option AV)) (b2_t (by omega)) | exact congrArg (fun z : Int => (some (vI z) : Option AV)) (b2_f (by omega)) | ((repeat' split) <;> first | rfl | omega) | (refine congrArg (fun z : Int => (some (vI z) : Option AV)) ?_; (repeat' split) <;> first | rfl | omega)
    · refine AW.iload_n (pc' := 13) dX12_keep_12 rfl ?_
      refine AW.aload_n (pc' := 14) dX12_keep_13 rfl ?_
      refine AW.getI (pc' := 17) dX12_keep_14 ly_57 fX12_339 rfl (fun r14 => ?_)
      refine AW.icmp_lt (tgt := 22) (pc' := 20) dX12_keep_17 (by first | assumption | omega | (constructor <;> omega) | (simp only [Int.toNat_natCast]; omega) | exact b2_in _) (by first | assumption | omega | (constructor <;> omega) | (simp only [Int.toNat_natCast]; omega) | exact b2_in _) (fun c17 => ?_) (fun c17 => ?_)
      · refine AW.aload_n (pc' := 23) dX12_keep_22 rfl ?_
        refine AW.getR (pc' := 26) dX12_keep_23 ly_57 fX12_98 rfl ?_
        refine AW.iload_n (pc' := 27) dX12_keep_26 rfl ?_
        refine AW.iload_n (pc' := 28) dX12_keep_27 rfl ?_
        refine AW.iconst (pc' := 29) dX12_keep_28 ?_
        refine AW.icmp_ne (tgt := 37) (pc' := 32) dX12_keep_29 (by first | assumption | omega | (constructor <;> omega) | (simp only [Int.toNat_natCast]; omega) | exact b2_in _) (by first | assumption | omega | (constructor <;> omega) | (simp only [Int.toNat_natCast]; omega) | exact b2_in _) (fun c29 => ?_) (fun c29 => ?_)
        · refine AW.iconst (pc' := 38) dX12_keep_37 ?_
          first | refine AW.iastN (pc' := 39) dX12_keep_38 ly_86 (by first | assumption | omega | (constructor <;> omega) | (simp only [Int.toNat_natCast]; omega) | exact b2_in _) (by decide) (by first | assumption | omega | (constructor <;> omega) | (simp only [Int.toNat_natCast]; omega) | exact b2_in _) ?_ | refine AW.iast (pc' := 39) dX12_keep_38 ly_86 (by first | assumption | omega | (constructor <;> omega) | (simp only [Int.toNat_natCast]; omega) | exact b2_in _) (by first | assumption | omega | (constructor <;> omega) | (simp only [Int.toNat_natCast]; omega) | exact b2_in _) (by decide) (by first | assumption | omega | (constructor <;> omega) | (simp only [Int.toNat_natCast]; omega) | exact b2_in _) ?_
          refine AW.aload_n (pc' := 40) dX12_keep_39 rfl ?_
          refine AW.getR (pc' := 43) dX12_keep_40 ly_57 fX12_101 rfl ?_
          refine AW.iload_n (pc' := 44) dX12_keep_43 rfl ?_
          refine AW.iload_n (pc' := 45) dX12_keep_44 rfl ?_
          first | refine AW.iastN (pc' := 46) dX12_keep_45 ly_87 (by first | assumption | omega | (constructor <;> omega) | (simp only [Int.toNat_natCast]; omega) | exact b2_in _) (by decide) (by first | assumption | omega | (constructor <;> omega) | (simp only [Int.toNat_natCast]; omega) | exact b2_in _) ?_ | refine AW.iast (pc' := 46) dX12_keep_45 ly_87 (by first | assumption | omega | (constructor <;> omega) | (simp only [Int.toNat_natCast]; omega) | exact b2_in _) (by first | assumption | omega | (constructor <;> omega) | (simp only [Int.toNat_natCast]; omega) | exact b2_in _) (by decide) (by first | assumption | omega | (constructor <;> omega) | (simp only [Int.toNat_natCast]; omega) | exact b2_in _) ?_
          refine AW.iconst (pc' := 47) dX12_keep_46 ?_
          refine AW.iret dX12_keep_47 ?_ ?_
          all_goals first | rfl | exact congrArg (fun z : Int => (some (vI z) : Option AV)) (b2_t (by omega)) | exact congrArg (fun z : Int => (some (vI z) : Option AV)) (b2_f (by omega)) | ((repeat' split) <;> first | rfl | omega) | (refine congrArg (fun z : Int => (some (vI z) : Option AV)) ?_; (repeat' split) <;> first | rfl | omega)
        · refine AW.bipush (pc' := 34) dX12_keep_32 (by decide) ?_
          refine AW.goto (tgt := 38) dX12_keep_34 ?_
          first | refine AW.iastN (pc' := 39) dX12_keep_38 ly_86 (by first | assumption | omega | (constructor <;> omega) | (simp only [Int.toNat_natCast]; omega) | exact b2_in _) (by decide) (by first | assumption | omega | (constructor <;> omega) | (simp only [Int.toNat_natCast]; omega) | exact b2_in _) ?_ | refine AW.iast (pc' := 39) dX12_keep_38 ly_86 (by first | assumption | omega | (constructor <;> omega) | (simp only [Int.toNat_natCast]; omega) | exact b2_in _) (by first | assumption | omega | (constructor <;> omega) | (simp only [Int.toNat_natCast]; omega) | exact b2_in _) (by decide) (by first | assumption | omega | (constructor <;> omega) | (simp only [Int.toNat_natCast]; omega) | exact b2_in _) ?_
          refine AW.aload_n (pc' := 40) dX12_keep_39 rfl ?_
          refine AW.getR (pc' := 43) dX12_keep_40 ly_57 fX12_101 rfl ?_
          refine AW.iload_n (pc' := 44) dX12_keep_43 rfl ?_
          refine AW.iload_n (pc' := 45) dX12_keep_44 rfl ?_
          first | refine AW.iastN (pc' := 46) dX12_keep_45 ly_87 (by first | assumption | omega | (constructor <;> omega) | (simp only [Int.toNat_natCast]; omega) | exact b2_in _) (by decide) (by first | assumption | omega | (constructor <;> omega) | (simp only [Int.toNat_natCast]; omega) | exact b2_in _) ?_ | refine AW.iast (pc' := 46) dX12_keep_45 ly_87 (by first | assumption | omega | (constructor <;> omega) | (simp only [Int.toNat_natCast]; omega) | exact b2_in _) (by first | assumption | omega | (constructor <;> omega) | (simp only [Int.toNat_natCast]; omega) | exact b2_in _) (by decide) (by first | assumption | omega | (constructor <;> omega) | (simp only [Int.toNat_natCast]; omega) | exact b2_in _) ?_
          refine AW.iconst (pc' := 47) dX12_keep_46 ?_
          refine AW.iret dX12_keep_47 ?_ ?_
          all_goals first | rfl | exact congrArg (fun z : Int => (some (vI z) : Option AV)) (b2_t (by omega)) | exact congrArg (fun z : Int => (some (vI z) : Option AV)) (b2_f (by omega)) | ((repeat' split) <;> first | rfl | omega) | (refine congrArg (fun z : Int => (some (vI z) : Option AV)) ?_; (repeat' split) <;> first | rfl | omega)
      · refine AW.iconst (pc' := 21) dX12_keep_20 ?_
        refine AW.iret dX12_keep_21 ?_ ?_
        all_goals first | rfl | exact congrArg (fun z : Int => (some (vI z) : Option AV)) (b2_t (by omega)) | exact congrArg (fun z : Int => (some (vI z) : Option AV)) (b2_f (by omega)) | ((repeat' split) <;> first | rfl | omega) | (refine congrArg (fun z : Int => (some (vI z) : Option AV)) ?_; (repeat' split) <;> first | rfl | omega)
set_option maxRecDepth 100000 in
set_option maxHeartbeats 4000000 in
theorem c_X11_keep {K : KT} {dep : Nat} {h : Hp} {a b : Int} (hd : 1 ≤ dep) (qb : 0 ≤ h 43 2) (q1 : inI a) (q2 : inI b) : AM K yX11_keep cX11_keep 3 (some .int) dep [vR 0, vI a, vI b] h (some (vI (if ¬ (0 ≤ a ∧ a < 6) ∨ b < -1 ∨ h 43 2 ≤ b then -1 else 1))) (if ¬ (0 ≤ a ∧ a < 6) ∨ b < -1 ∨ h 43 2 ≤ b then h else hset (hset (hset h 47 a.toNat (if b = -1 then 6 else 5)) 48 a.toNat b) 49 a.toNat 0) := by
  refine AM.of (own := RX11) (ls := [some (vR 0), some (vI a), some (vI b)]) rfl (by decide +kernel) (by exact Nat.le_of_ble_eq_true rfl) rfl (fun hO => ?_)
  refine AW.aload_n (pc' := 1) dX11_keep_0 rfl ?_
  refine AW.getR (pc' := 4) dX11_keep_1 ly_0 fX11_81 rfl ?_
  refine AW.iload_n (pc' := 5) dX11_keep_4 rfl ?_
  refine AW.invV1 (pc' := 8) dX11_keep_5 mlX11_111 mX8_has ly_46 rfl (c_X8_has (dep := dep - 1) (by first | assumption | omega | (constructor <;> omega) | (simp only [Int.toNat_natCast]; omega) | exact b2_in _)) ?_
  refine AW.ifb_eq (tgt := 27) (pc' := 11) dX11_keep_8 (fun c8 => ?_) (fun c8 => ?_)
  · refine AW.iconst (pc' := 28) dX11_keep_27 ?_
    refine AW.iret dX11_keep_28 ?_ ?_
    all_goals first | rfl | exact congrArg (fun z : Int => (some (vI z) : Option AV)) (b2_t (by omega)) | exact congrArg (fun z : Int => (some (vI z) : Option AV)) (b2_f (by omega)) | ((repeat' split) <;> first | rfl | omega) | (refine congrArg (fun z : Int => (some (vI z) : Option AV)) ?_; (repeat' split) <;> first | rfl | omega)
  · refine AW.iload_n (pc' := 12) dX11_keep_11 rfl ?_
    refine AW.iconst (pc' := 13) dX11_keep_12 ?_
    refine AW.icmp_eq (tgt := 29) (pc' := 16) dX11_keep_13 (by first | assumption | omega | (constructor <;> omega) | (simp only [Int.toNat_natCast]; omega) | exact b2_in _) (by first | assumption | omega | (constructor <;> omega) | (simp only [Int.toNat_natCast]; omega) | exact b2_in _) (fun c13 => ?_) (fun c13 => ?_)
    · refine AW.aload_n (pc' := 30) dX11_keep_29 rfl ?_
      refine AW.getR (pc' := 33) dX11_keep_30 ly_0 fX11_81 rfl ?_
      refine AW.iload_n (pc' := 34) dX11_keep_33 rfl ?_
      refine AW.iload_n (pc' := 35) dX11_keep_34 rfl ?_
      refine AW.invV2v (pc' := 38) dX11_keep_35 mlX11_308 mX8_hold ly_46 rfl (c_X8_hold (dep := dep - 1) (by first | assumption | omega | (constructor <;> omega) | (simp only [Int.toNat_natCast]; omega) | exact b2_in _) (by first | assumption | omega | (constructor <;> omega) | (simp only [Int.toNat_natCast]; omega) | exact b2_in _)) ?_
      refine AW.iconst (pc' := 39) dX11_keep_38 ?_
      refine AW.iret dX11_keep_39 ?_ ?_
      all_goals first | rfl | exact congrArg (fun z : Int => (some (vI z) : Option AV)) (b2_t (by omega)) | exact congrArg (fun z : Int => (some (vI z) : Option AV)) (b2_f (by omega)) | ((repeat' split) <;> first | rfl | omega) | (refine congrArg (fun z : Int => (some (vI z) : Option AV)) ?_; (repeat' split) <;> first | rfl | omega)
    · refine AW.aload_n (pc' := 17) dX11_keep_16 rfl ?_
      refine AW.getR (pc' := 20) dX11_keep_17 ly_0 fX11_74 rfl ?_
      refine AW.iload_n (pc' := 21) dX11_keep_20 rfl ?_
      refine AW.invV1 (pc' := 24) dX11_keep_21 mlX11_301 mX0_has ly_43 rfl (c_X0_has (dep := dep - 1) (by first | assumption | omega | (constructor <;> omega) | (simp only [Int.toNat_natCast]; omega) | exact b2_in _)) ?_
      refine AW.ifb_ne (tgt := 29) (pc' := 27) dX11_keep_24 (fun c24 => ?_) (fun c24 => ?_)
      · refine AW.aload_n (pc' := 30) dX11_keep_29 rfl ?_
        refine AW.getR (pc' := 33) dX11_keep_30 ly_0 fX11_81 rfl ?_
        refine AW.iload_n (pc' := 34) dX11_keep_33 rfl ?_
        refine AW.iload_n (pc' := 35) dX11_keep_34 rfl ?_
        refine AW.invV2v (pc' := 38) dX11_keep_35 mlX11_308 mX8_hold ly_46 rfl (c_X8_hold (dep := dep - 1) (by first | assumption | omega | (constructor <;> omega) | (simp only [Int.toNat_natCast]; omega) | exact b2_in _) (by first | assumption | omega | (constructor <;> omega) | (simp only [Int.toNat_natCast]; omega) | exact b2_in _)) ?_
        refine AW.iconst (pc' := 39) dX11_keep_38 ?_
        refine AW.iret dX11_keep_39 ?_ ?_
        all_goals first | rfl | exact congrArg (fun z : Int => (some (vI z) : Option AV)) (b2_t (by omega)) | exact congrArg (fun z : Int => (some (vI z) : Option AV)) (b2_f (by omega)) | ((repeat' split) <;> first | rfl | omega) | (refine congrArg (fun z : Int => (some (vI z) : Option AV)) ?_; (repeat' split) <;> first | rfl | omega)
      · refine AW.iconst (pc' := 28) dX11_keep_27 ?_
        refine AW.iret dX11_keep_28 ?_ ?_
        all_goals first | rfl | exact congrArg (fun z : Int => (some (vI z) : Option AV)) (b2_t (by omega)) | exact congrArg (fun z : Int => (some (vI z) : Option AV)) (b2_f (by omega)) | ((repeat' split) <;> first | rfl | omega) | (refine congrArg (fun z : Int => (some (vI z) : Option AV)) ?_; (repeat' split) <;> first | rfl | omega)
set_option maxRecDepth 100000 in
set_option maxHeartbeats 4000000 in
theorem c_X12_body {K : KT} {dep : Nat} {h : Hp} {a : Int} (hd : 1 ≤ dep) (qb : 0 ≤ h 57 52 ∧ h 57 52 ≤ 50) (q1 : inI a) : AM K yX12_body cX12_body 2 (some .int) dep [vR 57, vI a] h (some (vI (if ¬ (0 ≤ a ∧ a ≤ 7) then -1 else if h 57 52 = 50 then -3 else h 57 52))) (if ¬ (0 ≤ a ∧ a ≤ 7) then h else if h 57 52 = 50 then h else hset (hset h 84 (h 57 52).toNat a) 57 52 (h 57 52 + 1)) := by
  refine AM.of (own := RX12) (ls := [some (vR 57), some (vI a)]) rfl (by decide +kernel) (by exact Nat.le_of_ble_eq_true rfl) rfl (fun hO => ?_)
  refine AW.iload_n (pc' := 1) dX12_body_0 rfl ?_
  refine AW.iconst (pc' := 2) dX12_body_1 ?_
  refine AW.bipush (pc' := 4) dX12_body_2 (by decide) ?_
  refine AW.invS3 (pc' := 7) dX12_body_4 mlX12_117 mX12_isIn (c_X12_isIn (dep := dep - 1) (by first | assumption | omega | (constructor <;> omega) | (simp only [Int.toNat_natCast]; omega) | exact b2_in _) (by first | assumption | omega | (constructor <;> omega) | (simp only [Int.toNat_natCast]; omega) | exact b2_in _) (by first | assumption | omega | (constructor <;> omega) | (simp only [Int.toNat_natCast]; omega) | exact b2_in _)) ?_
  refine AW.ifb_ne (tgt := 12) (pc' := 10) dX12_body_7 (fun c7 => ?_) (fun c7 => ?_)
  · refine AW.aload_n (pc' := 13) dX12_body_12 rfl ?_
    refine AW.getI (pc' := 16) dX12_body_13 ly_57 fX12_339 rfl (fun r13 => ?_)
    refine AW.bipush (pc' := 18) dX12_body_16 (by decide) ?_
    refine AW.icmp_ne (tgt := 24) (pc' := 21) dX12_body_18 (by first | assumption | omega | (constructor <;> omega) | (simp only [Int.toNat_natCast]; omega) | exact b2_in _) (by first | assumption | omega | (constructor <;> omega) | (simp only [Int.toNat_natCast]; omega) | exact b2_in _) (fun c18 => ?_) (fun c18 => ?_)
    · refine AW.aload_n (pc' := 25) dX12_body_24 rfl ?_
      refine AW.getR (pc' := 28) dX12_body_25 ly_57 fX12_92 rfl ?_
      refine AW.aload_n (pc' := 29) dX12_body_28 rfl ?_
      refine AW.getI (pc' := 32) dX12_body_29 ly_57 fX12_339 rfl (fun r29 => ?_)
      refine AW.iload_n (pc' := 33) dX12_body_32 rfl ?_
      first | refine AW.iastN (pc' := 34) dX12_body_33 ly_84 (by first | assumption | omega | (constructor <;> omega) | (simp only [Int.toNat_natCast]; omega) | exact b2_in _) (by decide) (by first | assumption | omega | (constructor <;> omega) | (simp only [Int.toNat_natCast]; omega) | exact b2_in _) ?_ | refine AW.iast (pc' := 34) dX12_body_33 ly_84 (by first | assumption | omega | (constructor <;> omega) | (simp only [Int.toNat_natCast]; omega) | exact b2_in _) (by first | assumption | omega | (constructor <;> omega) | (simp only [Int.toNat_natCast]; omega) | exact b2_in _) (by decide) (by first | assumption | omega | (constructor <;> omega) | (simp only [Int.toNat_natCast]; omega) | exact b2_in _) ?_
      refine AW.aload_n (pc' := 35) dX12_body_34 rfl ?_
      refine AW.dup (pc' := 36) dX12_body_35 rfl ?_
      refine AW.getI (pc' := 39) dX12_body_36 ly_57 fX12_339 rfl (fun r36 => ?_)
      try simp only [hset_app, Nat.reduceEqDiff, false_and, and_false, true_and, and_true, reduceIte] at r36 ⊢
      refine AW.iconst (pc' := 40) dX12_body_39 ?_
      refine AW.iadd (pc' := 41) dX12_body_40 ?_
      refine AW.putI (pc' := 44) dX12_body_41 ly_57 pX12_339 rfl (by first | assumption | omega | (constructor <;> omega) | (simp only [Int.toNat_natCast]; omega) | exact b2_in _) ?_
      refine AW.aload_n (pc' := 45) dX12_body_44 rfl ?_
      refine AW.getI (pc' := 48) dX12_body_45 ly_57 fX12_339 rfl (fun r45 => ?_)
      try simp only [hset_app, Nat.reduceEqDiff, false_and, and_false, true_and, and_true, reduceIte] at r45 ⊢
      refine AW.iconst (pc' := 49) dX12_body_48 ?_
      refine AW.isub (pc' := 50) dX12_body_49 ?_
      refine AW.iret dX12_body_50 ?_ ?_
      all_goals first | rfl | exact congrArg (fun z : Int => (some (vI z) : Option AV)) (b2_t (by omega)) | exact congrArg (fun z : Int => (some (vI z) : Option AV)) (b2_f (by omega)) | ((repeat' split) <;> first | rfl | omega) | (refine congrArg (fun z : Int => (some (vI z) : Option AV)) ?_; (repeat' split) <;> first | rfl | omega)
    · refine AW.bipush (pc' := 23) dX12_body_21 (by decide) ?_
      refine AW.iret dX12_body_23 ?_ ?_
      all_goals first | rfl | exact congrArg (fun z : Int => (some (vI z) : Option AV)) (b2_t (by omega)) | exact congrArg (fun z : Int => (some (vI z) : Option AV)) (b2_f (by omega)) | ((repeat' split) <;> first | rfl | omega) | (refine congrArg (fun z : Int => (some (vI z) : Option AV)) ?_; (repeat' split) <;> first | rfl | omega)
  · refine AW.iconst (pc' := 11) dX12_body_10 ?_
    refine AW.iret dX12_body_11 ?_ ?_
    all_goals first | rfl | exact congrArg (fun z : Int => (some (vI z) : Option AV)) (b2_t (by omega)) | exact congrArg (fun z : Int => (some (vI z) : Option AV)) (b2_f (by omega)) | ((repeat' split) <;> first | rfl | omega) | (refine congrArg (fun z : Int => (some (vI z) : Option AV)) ?_; (repeat' split) <;> first | rfl | omega)
set_option maxRecDepth 100000 in
set_option maxHeartbeats 4000000 in
theorem c_X11_body {K : KT} {dep : Nat} {h : Hp} {a : Int} (hd : 1 ≤ dep) (qb : 0 ≤ h 43 2) (q1 : inI a) : AM K yX11_body cX11_body 2 (some .int) dep [vR 0, vI a] h (some (vI (if ¬ (0 ≤ a ∧ a ≤ 7) then -1 else if 50 ≤ h 43 2 then -3 else h 43 2))) (if ¬ (0 ≤ a ∧ a ≤ 7) then h else if 50 ≤ h 43 2 then h else hset (hset h 44 (h 43 2).toNat a) 43 2 (h 43 2 + 1)) := by
  refine AM.of (own := RX11) (ls := [some (vR 0), some (vI a)]) rfl (by decide +kernel) (by exact Nat.le_of_ble_eq_true rfl) rfl (fun hO => ?_)
  refine AW.iload_n (pc' := 1) dX11_body_0 rfl ?_
  refine AW.iconst (pc' := 2) dX11_body_1 ?_
  refine AW.bipush (pc' := 4) dX11_body_2 (by decide) ?_
  refine AW.invS3 (pc' := 7) dX11_body_4 mlX11_89 mX11_within (c_X11_within (dep := dep - 1) (by first | assumption | omega | (constructor <;> omega) | (simp only [Int.toNat_natCast]; omega) | exact b2_in _) (by first | assumption | omega | (constructor <;> omega) | (simp only [Int.toNat_natCast]; omega) | exact b2_in _) (by first | assumption | omega | (constructor <;> omega) | (simp only [Int.toNat_natCast]; omega) | exact b2_in _)) ?_
  refine AW.ifb_ne (tgt := 12) (pc' := 10) dX11_body_7 (fun c7 => ?_) (fun c7 => ?_)
  · refine AW.aload_n (pc' := 13) dX11_body_12 rfl ?_
    refine AW.getR (pc' := 16) dX11_body_13 ly_0 fX11_74 rfl ?_
    refine AW.iload_n (pc' := 17) dX11_body_16 rfl ?_
    refine AW.invV1 (pc' := 20) dX11_body_17 mlX11_297 mX0_come ly_43 rfl (c_X0_come (dep := dep - 1) (by first | assumption | omega | (constructor <;> omega) | (simp only [Int.toNat_natCast]; omega) | exact b2_in _) (by first | assumption | omega | (constructor <;> omega) | (simp only [Int.toNat_natCast]; omega) | exact b2_in _)) ?_
    refine AW.iret dX11_body_20 ?_ ?_
    all_goals first | rfl | exact congrArg (fun z : Int => (some (vI z) : Option AV)) (b2_t (by omega)) | exact congrArg (fun z : Int => (some (vI z) : Option AV)) (b2_f (by omega)) | ((repeat' split) <;> first | rfl | omega) | (refine congrArg (fun z : Int => (some (vI z) : Option AV)) ?_; (repeat' split) <;> first | rfl | omega)
  · refine AW.iconst (pc' := 11) dX11_body_10 ?_
    refine AW.iret dX11_body_11 ?_ ?_
    all_goals first | rfl | exact congrArg (fun z : Int => (some (vI z) : Option AV)) (b2_t (by omega)) | exact congrArg (fun z : Int => (some (vI z) : Option AV)) (b2_f (by omega)) | ((repeat' split) <;> first | rfl | omega) | (refine congrArg (fun z : Int => (some (vI z) : Option AV)) ?_; (repeat' split) <;> first | rfl | omega)
set_option maxRecDepth 100000 in
set_option maxHeartbeats 4000000 in
theorem c_X12_eyes {K : KT} {dep : Nat} {h : Hp} {a : Int} (hd : 1 ≤ dep) (q0 : inI a) : AM K yX12_eyes cX12_eyes 3 (some .int) dep [vR 57, vI a] h (some (vI (if 0 ≤ a ∧ a ≤ 100 then h 57 17 else -1))) (if 0 ≤ a ∧ a ≤ 100 then hset h 57 17 a else h) := by
  refine AM.of (own := RX12) (ls := [some (vR 57), some (vI a), none]) rfl (by decide +kernel) (by exact Nat.le_of_ble_eq_true rfl) rfl (fun hO => ?_)
  refine AW.iload_n (pc' := 1) dX12_eyes_0 rfl ?_
  refine AW.iconst (pc' := 2) dX12_eyes_1 ?_
  refine AW.bipush (pc' := 4) dX12_eyes_2 (by decide) ?_
  refine AW.invS3 (pc' := 7) dX12_eyes_4 mlX12_117 mX12_isIn (c_X12_isIn (dep := dep - 1) (by first | assumption | omega | (constructor <;> omega) | (simp only [Int.toNat_natCast]; omega) | exact b2_in _) (by first | assumption | omega | (constructor <;> omega) | (simp only [Int.toNat_natCast]; omega) | exact b2_in _) (by first | assumption | omega | (constructor <;> omega) | (simp only [Int.toNat_natCast]; omega) | exact b2_in _)) ?_
  refine AW.ifb_ne (tgt := 12) (pc' := 10) dX12_eyes_7 (fun c7 => ?_) (fun c7 => ?_)
  · refine AW.aload_n (pc' := 13) dX12_eyes_12 rfl ?_
    refine AW.getI (pc' := 16) dX12_eyes_13 ly_57 fX12_49 rfl (fun r13 => ?_)
    refine AW.istore2n (pc' := 17) dX12_eyes_16 (by decide) rfl ?_
    refine AW.aload_n (pc' := 18) dX12_eyes_17 rfl ?_
    refine AW.iload_n (pc' := 19) dX12_eyes_18 rfl ?_
    refine AW.putI (pc' := 22) dX12_eyes_19 ly_57 pX12_49 rfl (by first | assumption | omega | (constructor <;> omega) | (simp only [Int.toNat_natCast]; omega) | exact b2_in _) ?_
    refine AW.iload_n (pc' := 23) dX12_eyes_22 rfl ?_
    refine AW.iret dX12_eyes_23 ?_ ?_
    all_goals first | rfl | exact congrArg (fun z : Int => (some (vI z) : Option AV)) (b2_t (by omega)) | exact congrArg (fun z : Int => (some (vI z) : Option AV)) (b2_f (by omega)) | ((repeat' split) <;> first | rfl | omega) | (refine congrArg (fun z : Int => (some (vI z) : Option AV)) ?_; (repeat' split) <;> first | rfl | omega)
  · refine AW.iconst (pc' := 11) dX12_eyes_10 ?_
    refine AW.iret dX12_eyes_11 ?_ ?_
    all_goals first | rfl | exact congrArg (fun z : Int => (some (vI z) : Option AV)) (b2_t (by omega)) | exact congrArg (fun z : Int => (some (vI z) : Option AV)) (b2_f (by omega)) | ((repeat' split) <;> first | rfl | omega) | (refine congrArg (fun z : Int => (some (vI z) : Option AV)) ?_; (repeat' split) <;> first | rfl | omega)
set_option maxRecDepth 100000 in
set_option maxHeartbeats 4000000 in
theorem c_X11_eyes {K : KT} {dep : Nat} {h : Hp} {a : Int} (hd : 1 ≤ dep) (q0 : inI a) : AM K yX11_eyes cX11_eyes 3 (some .int) dep [vR 0, vI a] h (some (vI (if 0 ≤ a ∧ a ≤ 100 then h 0 10 else -1))) (if 0 ≤ a ∧ a ≤ 100 then hset h 0 10 a else h) := by
  refine AM.of (own := RX11) (ls := [some (vR 0), some (vI a), none]) rfl (by decide +kernel) (by exact Nat.le_of_ble_eq_true rfl) rfl (fun hO => ?_)
  refine AW.iload_n (pc' := 1) dX11_eyes_0 rfl ?_
  refine AW.iconst (pc' := 2) dX11_eyes_1 ?_
  refine AW.bipush (pc' := 4) dX11_eyes_2 (by decide) ?_
  refine AW.invS3 (pc' := 7) dX11_eyes_4 mlX11_89 mX11_within (c_X11_within (dep := dep - 1) (by first | assumption | omega | (constructor <;> omega) | (simp only [Int.toNat_natCast]; omega) | exact b2_in _) (by first | assumption | omega | (constructor <;> omega) | (simp only [Int.toNat_natCast]; omega) | exact b2_in _) (by first | assumption | omega | (constructor <;> omega) | (simp only [Int.toNat_natCast]; omega) | exact b2_in _)) ?_
  refine AW.ifb_ne (tgt := 12) (pc' := 10) dX11_eyes_7 (fun c7 => ?_) (fun c7 => ?_)
  · refine AW.aload_n (pc' := 13) dX11_eyes_12 rfl ?_
    refine AW.getI (pc' := 16) dX11_eyes_13 ly_0 fX11_85 rfl (fun r13 => ?_)
    refine AW.istore2n (pc' := 17) dX11_eyes_16 (by decide) rfl ?_
    refine AW.aload_n (pc' := 18) dX11_eyes_17 rfl ?_
    refine AW.iload_n (pc' := 19) dX11_eyes_18 rfl ?_
    refine AW.putI (pc' := 22) dX11_eyes_19 ly_0 pX11_85 rfl (by first | assumption | omega | (constructor <;> omega) | (simp only [Int.toNat_natCast]; omega) | exact b2_in _) ?_
    refine AW.iload_n (pc' := 23) dX11_eyes_22 rfl ?_
    refine AW.iret dX11_eyes_23 ?_ ?_
    all_goals first | rfl | exact congrArg (fun z : Int => (some (vI z) : Option AV)) (b2_t (by omega)) | exact congrArg (fun z : Int => (some (vI z) : Option AV)) (b2_f (by omega)) | ((repeat' split) <;> first | rfl | omega) | (refine congrArg (fun z : Int => (some (vI z) : Option AV)) ?_; (repeat' split) <;> first | rfl | omega)
  · refine AW.iconst (pc' := 11) dX11_eyes_10 ?_
    refine AW.iret dX11_eyes_11 ?_ ?_
    all_goals first | rfl | exact congrArg (fun z : Int => (some (vI z) : Option AV)) (b2_t (by omega)) | exact congrArg (fun z : Int => (some (vI z) : Option AV)) (b2_f (by omega)) | ((repeat' split) <;> first | rfl | omega) | (refine congrArg (fun z : Int => (some (vI z) : Option AV)) ?_; (repeat' split) <;> first | rfl | omega)
set_option maxRecDepth 100000 in
set_option maxHeartbeats 4000000 in
theorem c_X12_course {K : KT} {dep : Nat} {h : Hp} {a : Int} (hd : 1 ≤ dep) (qb : 0 ≤ h 57 15 ∧ h 57 15 ≤ 5) (q1 : inI a) : AM K yX12_course cX12_course 2 (some .int) dep [vR 57, vI a] h (some (vI (if ¬ (500 ≤ a ∧ a ≤ 2000) then -1 else if h 57 15 = 5 then -3 else h 57 15))) (if ¬ (500 ≤ a ∧ a ≤ 2000) then h else if h 57 15 = 5 then h else hset (hset h 65 (h 57 15).toNat a) 57 15 (h 57 15 + 1)) := by
  refine AM.of (own := RX12) (ls := [some (vR 57), some (vI a)]) rfl (by decide +kernel) (by exact Nat.le_of_ble_eq_true rfl) rfl (fun hO => ?_)
  refine AW.iload_n (pc' := 1) dX12_course_0 rfl ?_
  refine AW.sipush (pc' := 4) dX12_course_1 (by decide) ?_
  refine AW.sipush (pc' := 7) dX12_course_4 (by decide) ?_
  refine AW.invS3 (pc' := 10) dX12_course_7 mlX12_117 mX12_isIn (c_X12_isIn (dep := dep - 1) (by first | assumption | omega | (constructor <;> omega) | (simp only [Int.toNat_natCast]; omega) | exact b2_in _) (by first | assumption | omega | (constructor <;> omega) | (simp only [Int.toNat_natCast]; omega) | exact b2_in _) (by first | assumption | omega | (constructor <;> omega) | (simp only [Int.toNat_natCast]; omega) | exact b2_in _)) ?_
  refine AW.ifb_ne (tgt := 15) (pc' := 13) dX12_course_10 (fun c10 => ?_) (fun c10 => ?_)
  · refine AW.aload_n (pc' := 16) dX12_course_15 rfl ?_
    refine AW.getI (pc' := 19) dX12_course_16 ly_57 fX12_125 rfl (fun r16 => ?_)
    refine AW.iconst (pc' := 20) dX12_course_19 ?_
    refine AW.icmp_ne (tgt := 26) (pc' := 23) dX12_course_20 (by first | assumption | omega | (constructor <;> omega) | (simp only [Int.toNat_natCast]; omega) | exact b2_in _) (by first | assumption | omega | (constructor <;> omega) | (simp only [Int.toNat_natCast]; omega) | exact b2_in _) (fun c20 => ?_) (fun c20 => ?_)
    · refine AW.aload_n (pc' := 27) dX12_course_26 rfl ?_
      refine AW.getR (pc' := 30) dX12_course_27 ly_57 fX12_31 rfl ?_
      refine AW.aload_n (pc' := 31) dX12_course_30 rfl ?_
      refine AW.getI (pc' := 34) dX12_course_31 ly_57 fX12_125 rfl (fun r31 => ?_)
      refine AW.iload_n (pc' := 35) dX12_course_34 rfl ?_
      first | refine AW.iastN (pc' := 36) dX12_course_35 ly_65 (by first | assumption | omega | (constructor <;> omega) | (simp only [Int.toNat_natCast]; omega) | exact b2_in _) (by decide) (by first | assumption | omega | (constructor <;> omega) | (simp only [Int.toNat_natCast]; omega) | exact b2_in _) ?_ | refine AW.iast (pc' := 36) dX12_course_35 ly_65 (by first | assumption | omega | (constructor <;> omega) | (simp only [Int.toNat_natCast]; omega) | exact b2_in _) (by first | assumption | omega | (constructor <;> omega) | (simp only [Int.toNat_natCast]; omega) | exact b2_in _) (by decide) (by first | assumption | omega | (constructor <;> omega) | (simp only [Int.toNat_natCast]; omega) | exact b2_in _) ?_
      refine AW.aload_n (pc' := 37) dX12_course_36 rfl ?_
      refine AW.dup (pc' := 38) dX12_course_37 rfl ?_
      refine AW.getI (pc' := 41) dX12_course_38 ly_57 fX12_125 rfl (fun r38 => ?_)
      try simp only [hset_app, Nat.reduceEqDiff, false_and, and_false, true_and, and_true, reduceIte] at r38 ⊢
      refine AW.iconst (pc' := 42) dX12_course_41 ?_
      refine AW.iadd (pc' := 43) dX12_course_42 ?_
      refine AW.putI (pc' := 46) dX12_course_43 ly_57 pX12_125 rfl (by first | assumption | omega | (constructor <;> omega) | (simp only [Int.toNat_natCast]; omega) | exact b2_in _) ?_
      refine AW.aload_n (pc' := 47) dX12_course_46 rfl ?_
      refine AW.getI (pc' := 50) dX12_course_47 ly_57 fX12_125 rfl (fun r47 => ?_)
      try simp only [hset_app, Nat.reduceEqDiff, false_and, and_false, true_and, and_true, reduceIte] at r47 ⊢
      refine AW.iconst (pc' := 51) dX12_course_50 ?_
      refine AW.isub (pc' := 52) dX12_course_51 ?_
      refine AW.iret dX12_course_52 ?_ ?_
      all_goals first | rfl | exact congrArg (fun z : Int => (some (vI z) : Option AV)) (b2_t (by omega)) | exact congrArg (fun z : Int => (some (vI z) : Option AV)) (b2_f (by omega)) | ((repeat' split) <;> first | rfl | omega) | (refine congrArg (fun z : Int => (some (vI z) : Option AV)) ?_; (repeat' split) <;> first | rfl | omega)
    · refine AW.bipush (pc' := 25) dX12_course_23 (by decide) ?_
      refine AW.iret dX12_course_25 ?_ ?_
      all_goals first | rfl | exact congrArg (fun z : Int => (some (vI z) : Option AV)) (b2_t (by omega)) | exact congrArg (fun z : Int => (some (vI z) : Option AV)) (b2_f (by omega)) | ((repeat' split) <;> first | rfl | omega) | (refine congrArg (fun z : Int => (some (vI z) : Option AV)) ?_; (repeat' split) <;> first | rfl | omega)
  · refine AW.iconst (pc' := 14) dX12_course_13 ?_
    refine AW.iret dX12_course_14 ?_ ?_
    all_goals first | rfl | exact congrArg (fun z : Int => (some (vI z) : Option AV)) (b2_t (by omega)) | exact congrArg (fun z : Int => (some (vI z) : Option AV)) (b2_f (by omega)) | ((repeat' split) <;> first | rfl | omega) | (refine congrArg (fun z : Int => (some (vI z) : Option AV)) ?_; (repeat' split) <;> first | rfl | omega)
set_option maxRecDepth 100000 in
set_option maxHeartbeats 4000000 in
theorem c_X11_course {K : KT} {dep : Nat} {h : Hp} {a : Int} (hd : 1 ≤ dep) (qb : 0 ≤ h 10 1) (q1 : inI a) : AM K yX11_course cX11_course 2 (some .int) dep [vR 0, vI a] h (some (vI (if ¬ (500 ≤ a ∧ a ≤ 2000) then -1 else if 5 ≤ h 10 1 then -3 else h 10 1))) (if ¬ (500 ≤ a ∧ a ≤ 2000) then h else if 5 ≤ h 10 1 then h else hset (hset h 11 (h 10 1).toNat a) 10 1 (h 10 1 + 1)) := by
  refine AM.of (own := RX11) (ls := [some (vR 0), some (vI a)]) rfl (by decide +kernel) (by exact Nat.le_of_ble_eq_true rfl) rfl (fun hO => ?_)
  refine AW.iload_n (pc' := 1) dX11_course_0 rfl ?_
  refine AW.sipush (pc' := 4) dX11_course_1 (by decide) ?_
  refine AW.sipush (pc' := 7) dX11_course_4 (by decide) ?_
  refine AW.invS3 (pc' := 10) dX11_course_7 mlX11_89 mX11_within (c_X11_within (dep := dep - 1) (by first | assumption | omega | (constructor <;> omega) | (simp only [Int.toNat_natCast]; omega) | exact b2_in _) (by first | assumption | omega | (constructor <;> omega) | (simp only [Int.toNat_natCast]; omega) | exact b2_in _) (by first | assumption | omega | (constructor <;> omega) | (simp only [Int.toNat_natCast]; omega) | exact b2_in _)) ?_
  refine AW.ifb_ne (tgt := 15) (pc' := 13) dX11_course_10 (fun c10 => ?_) (fun c10 => ?_)
  · refine AW.aload_n (pc' := 16) dX11_course_15 rfl ?_
    refine AW.getR (pc' := 19) dX11_course_16 ly_0 fX11_26 rfl ?_
    refine AW.iload_n (pc' := 20) dX11_course_19 rfl ?_
    refine AW.invV1 (pc' := 23) dX11_course_20 mlX11_101 mX4_come ly_10 rfl (c_X4_come (dep := dep - 1) (by first | assumption | omega | (constructor <;> omega) | (simp only [Int.toNat_natCast]; omega) | exact b2_in _) (by first | assumption | omega | (constructor <;> omega) | (simp only [Int.toNat_natCast]; omega) | exact b2_in _)) ?_
    refine AW.iret dX11_course_23 ?_ ?_
    all_goals first | rfl | exact congrArg (fun z : Int => (some (vI z) : Option AV)) (b2_t (by omega)) | exact congrArg (fun z : Int => (some (vI z) : Option AV)) (b2_f (by omega)) | ((repeat' split) <;> first | rfl | omega) | (refine congrArg (fun z : Int => (some (vI z) : Option AV)) ?_; (repeat' split) <;> first | rfl | omega)
  · refine AW.iconst (pc' := 14) dX11_course_13 ?_
    refine AW.iret dX11_course_14 ?_ ?_
    all_goals first | rfl | exact congrArg (fun z : Int => (some (vI z) : Option AV)) (b2_t (by omega)) | exact congrArg (fun z : Int => (some (vI z) : Option AV)) (b2_f (by omega)) | ((repeat' split) <;> first | rfl | omega) | (refine congrArg (fun z : Int => (some (vI z) : Option AV)) ?_; (repeat' split) <;> first | rfl | omega)
set_option maxRecDepth 100000 in
set_option maxHeartbeats 4000000 in
theorem c_X12_shoe {K : KT} {dep : Nat} {h : Hp} {a b c : Int} (hd : 1 ≤ dep) (qb : 0 ≤ h 57 14 ∧ h 57 14 ≤ 6) (q1 : inI a) (q2 : inI b) (q3 : inI c) : AM K yX12_shoe cX12_shoe 4 (some .int) dep [vR 57, vI a, vI b, vI c] h (some (vI (if ¬ ((1 ≤ a ∧ a ≤ 99) ∧ (-99 ≤ b ∧ b ≤ 99) ∧ 0 ≤ c ∧ c ≤ 99) then -1 else if h 57 14 = 6 then -3 else h 57 14))) (if ¬ ((1 ≤ a ∧ a ≤ 99) ∧ (-99 ≤ b ∧ b ≤ 99) ∧ 0 ≤ c ∧ c ≤ 99) then h else if h 57 14 = 6 then h else hset (hset (hset (hset h 62 (h 57 14).toNat a) 63 (h 57 14).toNat b) 64 (h 57 14).toNat c) 57 14 (h 57 14 + 1)) := by
  refine AM.of (own := RX12) (ls := [some (vR 57), some (vI a), some (vI b), some (vI c)]) rfl (by decide +kernel) (by exact Nat.le_of_ble_eq_true rfl) rfl (fun hO => ?_)
  refine AW.iload_n (pc' := 1) dX12_shoe_0 rfl ?_
  refine AW.iconst (pc' := 2) dX12_shoe_1 ?_
  refine AW.bipush (pc' := 4) dX12_shoe_2 (by decide) ?_
  refine AW.invS3 (pc' := 7) dX12_shoe_4 mlX12_117 mX12_isIn (c_X12_isIn (dep := dep - 1) (by first | assumption | omega | (constructor <;> omega) | (simp only [Int.toNat_natCast]; omega) | exact b2_in _) (by first | assumption | omega | (constructor <;> omega) | (simp only [Int.toNat_natCast]; omega) | exact b2_in _) (by first | assumption | omega | (constructor <;> omega) | (simp only [Int.toNat_natCast]; omega) | exact b2_in _)) ?_
  refine AW.ifb_eq (tgt := 31) (pc' := 10) dX12_shoe_7 (fun c7 => ?_) (fun c7 => ?_)
  · refine AW.iconst (pc' := 32) dX12_shoe_31 ?_
    refine AW.iret dX12_shoe_32 ?_ ?_
    all_goals first | rfl | exact congrArg (fun z : Int => (some (vI z) : Option AV)) (b2_t (by omega)) | exact congrArg (fun z : Int => (some (vI z) : Option AV)) (b2_f (by omega)) | ((repeat' split) <;> first | rfl | omega) | (refine congrArg (fun z : Int => (some (vI z) : Option AV)) ?_; (repeat' split) <;> first | rfl | omega)
  · refine AW.iload_n (pc' := 11) dX12_shoe_10 rfl ?_
    refine AW.bipush (pc' := 13) dX12_shoe_11 (by decide) ?_
    refine AW.bipush (pc' := 15) dX12_shoe_13 (by decide) ?_
    refine AW.invS3 (pc' := 18) dX12_shoe_15 mlX12_117 mX12_isIn (c_X12_isIn (dep := dep - 1) (by first | assumption | omega | (constructor <;> omega) | (simp only [Int.toNat_natCast]; omega) | exact b2_in _) (by first | assumption | omega | (constructor <;> omega) | (simp only [Int.toNat_natCast]; omega) | exact b2_in _) (by first | assumption | omega | (constructor <;> omega) | (simp only [Int.toNat_natCast]; omega) | exact b2_in _)) ?_
    refine AW.ifb_eq (tgt := 31) (pc' := 21) dX12_shoe_18 (fun c18 => ?_) (fun c18 => ?_)
    · refine AW.iconst (pc' := 32) dX12_shoe_31 ?_
      refine AW.iret dX12_shoe_32 ?_ ?_
      all_goals first | rfl | exact congrArg (fun z : Int => (some (vI z) : Option AV)) (b2_t (by omega)) | exact congrArg (fun z : Int => (some (vI z) : Option AV)) (b2_f (by omega)) | ((repeat' split) <;> first | rfl | omega) | (refine congrArg (fun z : Int => (some (vI z) : Option AV)) ?_; (repeat' split) <;> first | rfl | omega)
    · refine AW.iload_n (pc' := 22) dX12_shoe_21 rfl ?_
      refine AW.iconst (pc' := 23) dX12_shoe_22 ?_
      refine AW.bipush (pc' := 25) dX12_shoe_23 (by decide) ?_
      refine AW.invS3 (pc' := 28) dX12_shoe_25 mlX12_117 mX12_isIn (c_X12_isIn (dep := dep - 1) (by first | assumption | omega | (constructor <;> omega) | (simp only [Int.toNat_natCast]; omega) | exact b2_in _) (by first | assumption | omega | (constructor <;> omega) | (simp only [Int.toNat_natCast]; omega) | exact b2_in _) (by first | assumption | omega | (constructor <;> omega) | (simp only [Int.toNat_natCast]; omega) | exact b2_in _)) ?_
      refine AW.ifb_ne (tgt := 33) (pc' := 31) dX12_shoe_28 (fun c28 => ?_) (fun c28 => ?_)
      · refine AW.aload_n (pc' := 34) dX12_shoe_33 rfl ?_
        refine AW.getI (pc' := 37) dX12_shoe_34 ly_57 fX12_114 rfl (fun r34 => ?_)
        refine AW.bipush (pc' := 39) dX12_shoe_37 (by decide) ?_
        refine AW.icmp_ne (tgt := 45) (pc' := 42) dX12_shoe_39 (by first | assumption | omega | (constructor <;> omega) | (simp only [Int.toNat_natCast]; omega) | exact b2_in _) (by first | assumption | omega | (constructor <;> omega) | (simp only [Int.toNat_natCast]; omega) | exact b2_in _) (fun c39 => ?_) (fun c39 => ?_)
        · refine AW.aload_n (pc' := 46) dX12_shoe_45 rfl ?_
          refine AW.getR (pc' := 49) dX12_shoe_46 ly_57 fX12_22 rfl ?_
          refine AW.aload_n (pc' := 50) dX12_shoe_49 rfl ?_
          refine AW.getI (pc' := 53) dX12_shoe_50 ly_57 fX12_114 rfl (fun r50 => ?_)
          refine AW.iload_n (pc' := 54) dX12_shoe_53 rfl ?_
          first | refine AW.iastN (pc' := 55) dX12_shoe_54 ly_62 (by first | assumption | omega | (constructor <;> omega) | (simp only [Int.toNat_natCast]; omega) | exact b2_in _) (by decide) (by first | assumption | omega | (constructor <;> omega) | (simp only [Int.toNat_natCast]; omega) | exact b2_in _) ?_ | refine AW.iast (pc' := 55) dX12_shoe_54 ly_62 (by first | assumption | omega | (constructor <;> omega) | (simp only [Int.toNat_natCast]; omega) | exact b2_in _) (by first | assumption | omega | (constructor <;> omega) | (simp only [Int.toNat_natCast]; omega) | exact b2_in _) (by decide) (by first | assumption | omega | (constructor <;> omega) | (simp only [Int.toNat_natCast]; omega) | exact b2_in _) ?_
          refine AW.aload_n (pc' := 56) dX12_shoe_55 rfl ?_
          refine AW.getR (pc' := 59) dX12_shoe_56 ly_57 fX12_25 rfl ?_
          refine AW.aload_n (pc' := 60) dX12_shoe_59 rfl ?_
          refine AW.getI (pc' := 63) dX12_shoe_60 ly_57 fX12_114 rfl (fun r60 => ?_)
          try simp only [hset_app, Nat.reduceEqDiff, false_and, and_false, true_and, and_true, reduceIte] at r60 ⊢
          refine AW.iload_n (pc' := 64) dX12_shoe_63 rfl ?_
          first | refine AW.iastN (pc' := 65) dX12_shoe_64 ly_63 (by first | assumption | omega | (constructor <;> omega) | (simp only [Int.toNat_natCast]; omega) | exact b2_in _) (by decide) (by first | assumption | omega | (constructor <;> omega) | (simp only [Int.toNat_natCast]; omega) | exact b2_in _) ?_ | refine AW.iast (pc' := 65) dX12_shoe_64 ly_63 (by first | assumption | omega | (constructor <;> omega) | (simp only [Int.toNat_natCast]; omega) | exact b2_in _) (by first | assumption | omega | (constructor <;> omega) | (simp only [Int.toNat_natCast]; omega) | exact b2_in _) (by decide) (by first | assumption | omega | (constructor <;> omega) | (simp only [Int.toNat_natCast]; omega) | exact b2_in _) ?_
          refine AW.aload_n (pc' := 66) dX12_shoe_65 rfl ?_
          refine AW.getR (pc' := 69) dX12_shoe_66 ly_57 fX12_28 rfl ?_
          refine AW.aload_n (pc' := 70) dX12_shoe_69 rfl ?_
          refine AW.getI (pc' := 73) dX12_shoe_70 ly_57 fX12_114 rfl (fun r70 => ?_)
          try simp only [hset_app, Nat.reduceEqDiff, false_and, and_false, true_and, and_true, reduceIte] at r70 ⊢
          refine AW.iload_n (pc' := 74) dX12_shoe_73 rfl ?_
          first | refine AW.iastN (pc' := 75) dX12_shoe_74 ly_64 (by first | assumption | omega | (constructor <;> omega) | (simp only [Int.toNat_natCast]; omega) | exact b2_in _) (by decide) (by first | assumption | omega | (constructor <;> omega) | (simp only [Int.toNat_natCast]; omega) | exact b2_in _) ?_ | refine AW.iast (pc' := 75) dX12_shoe_74 ly_64 (by first | assumption | omega | (constructor <;> omega) | (simp only [Int.toNat_natCast]; omega) | exact b2_in _) (by first | assumption | omega | (constructor <;> omega) | (simp only [Int.toNat_natCast]; omega) | exact b2_in _) (by decide) (by first | assumption | omega | (constructor <;> omega) | (simp only [Int.toNat_natCast]; omega) | exact b2_in _) ?_
          refine AW.aload_n (pc' := 76) dX12_shoe_75 rfl ?_
          refine AW.dup (pc' := 77) dX12_shoe_76 rfl ?_
          refine AW.getI (pc' := 80) dX12_shoe_77 ly_57 fX12_114 rfl (fun r77 => ?_)
          try simp only [hset_app, Nat.reduceEqDiff, false_and, and_false, true_and, and_true, reduceIte] at r77 ⊢
          refine AW.iconst (pc' := 81) dX12_shoe_80 ?_
          refine AW.iadd (pc' := 82) dX12_shoe_81 ?_
          refine AW.putI (pc' := 85) dX12_shoe_82 ly_57 pX12_114 rfl (by first | assumption | omega | (constructor <;> omega) | (simp only [Int.toNat_natCast]; omega) | exact b2_in _) ?_
          refine AW.aload_n (pc' := 86) dX12_shoe_85 rfl ?_
          refine AW.getI (pc' := 89) dX12_shoe_86 ly_57 fX12_114 rfl (fun r86 => ?_)
          try simp only [hset_app, Nat.reduceEqDiff, false_and, and_false, true_and, and_true, reduceIte] at r86 ⊢
          refine AW.iconst (pc' := 90) dX12_shoe_89 ?_
          refine AW.isub (pc' := 91) dX12_shoe_90 ?_
          refine AW.iret dX12_shoe_91 ?_ ?_
          all_goals first | rfl | exact congrArg (fun z : Int => (some (vI z) : Option AV)) (b2_t (by omega)) | exact congrArg (fun z : Int => (some (vI z) : Option AV)) (b2_f (by omega)) | ((repeat' split) <;> first | rfl | omega) | (refine congrArg (fun z : Int => (some (vI z) : Option AV)) ?_; (repeat' split) <;> first | rfl | omega)
        · refine AW.bipush (pc' := 44) dX12_shoe_42 (by decide) ?_
          refine AW.iret dX12_shoe_44 ?_ ?_
          all_goals first | rfl | exact congrArg (fun z : Int => (some (vI z) : Option AV)) (b2_t (by omega)) | exact congrArg (fun z : Int => (some (vI z) : Option AV)) (b2_f (by omega)) | ((repeat' split) <;> first | rfl | omega) | (refine congrArg (fun z : Int => (some (vI z) : Option AV)) ?_; (repeat' split) <;> first | rfl | omega)
      · refine AW.iconst (pc' := 32) dX12_shoe_31 ?_
        refine AW.iret dX12_shoe_32 ?_ ?_
        all_goals first | rfl | exact congrArg (fun z : Int => (some (vI z) : Option AV)) (b2_t (by omega)) | exact congrArg (fun z : Int => (some (vI z) : Option AV)) (b2_f (by omega)) | ((repeat' split) <;> first | rfl | omega) | (refine congrArg (fun z : Int => (some (vI z) : Option AV)) ?_; (repeat' split) <;> first | rfl | omega)
set_option maxRecDepth 100000 in
set_option maxHeartbeats 4000000 in
theorem c_X11_shoe {K : KT} {dep : Nat} {h : Hp} {a b c : Int} (hd : 1 ≤ dep) (qb : 0 ≤ h 6 3) (q1 : inI a) (q2 : inI b) (q3 : inI c) : AM K yX11_shoe cX11_shoe 4 (some .int) dep [vR 0, vI a, vI b, vI c] h (some (vI (if ¬ ((1 ≤ a ∧ a ≤ 99) ∧ (-99 ≤ b ∧ b ≤ 99) ∧ 0 ≤ c ∧ c ≤ 99) then -1 else if 6 ≤ h 6 3 then -3 else h 6 3))) (if ¬ ((1 ≤ a ∧ a ≤ 99) ∧ (-99 ≤ b ∧ b ≤ 99) ∧ 0 ≤ c ∧ c ≤ 99) then h else if 6 ≤ h 6 3 then h else hset (hset (hset (hset h 7 (h 6 3).toNat a) 8 (h 6 3).toNat b) 9 (h 6 3).toNat c) 6 3 (h 6 3 + 1)) := by
  refine AM.of (own := RX11) (ls := [some (vR 0), some (vI a), some (vI b), some (vI c)]) rfl (by decide +kernel) (by exact Nat.le_of_ble_eq_true rfl) rfl (fun hO => ?_)
  refine AW.iload_n (pc' := 1) dX11_shoe_0 rfl ?_
  refine AW.iconst (pc' := 2) dX11_shoe_1 ?_
  refine AW.bipush (pc' := 4) dX11_shoe_2 (by decide) ?_
  refine AW.invS3 (pc' := 7) dX11_shoe_4 mlX11_89 mX11_within (c_X11_within (dep := dep - 1) (by first | assumption | omega | (constructor <;> omega) | (simp only [Int.toNat_natCast]; omega) | exact b2_in _) (by first | assumption | omega | (constructor <;> omega) | (simp only [Int.toNat_natCast]; omega) | exact b2_in _) (by first | assumption | omega | (constructor <;> omega) | (simp only [Int.toNat_natCast]; omega) | exact b2_in _)) ?_
  refine AW.ifb_eq (tgt := 31) (pc' := 10) dX11_shoe_7 (fun c7 => ?_) (fun c7 => ?_)
  · refine AW.iconst (pc' := 32) dX11_shoe_31 ?_
    refine AW.iret dX11_shoe_32 ?_ ?_
    all_goals first | rfl | exact congrArg (fun z : Int => (some (vI z) : Option AV)) (b2_t (by omega)) | exact congrArg (fun z : Int => (some (vI z) : Option AV)) (b2_f (by omega)) | ((repeat' split) <;> first | rfl | omega) | (refine congrArg (fun z : Int => (some (vI z) : Option AV)) ?_; (repeat' split) <;> first | rfl | omega)
  · refine AW.iload_n (pc' := 11) dX11_shoe_10 rfl ?_
    refine AW.bipush (pc' := 13) dX11_shoe_11 (by decide) ?_
    refine AW.bipush (pc' := 15) dX11_shoe_13 (by decide) ?_
    refine AW.invS3 (pc' := 18) dX11_shoe_15 mlX11_89 mX11_within (c_X11_within (dep := dep - 1) (by first | assumption | omega | (constructor <;> omega) | (simp only [Int.toNat_natCast]; omega) | exact b2_in _) (by first | assumption | omega | (constructor <;> omega) | (simp only [Int.toNat_natCast]; omega) | exact b2_in _) (by first | assumption | omega | (constructor <;> omega) | (simp only [Int.toNat_natCast]; omega) | exact b2_in _)) ?_
    refine AW.ifb_eq (tgt := 31) (pc' := 21) dX11_shoe_18 (fun c18 => ?_) (fun c18 => ?_)
    · refine AW.iconst (pc' := 32) dX11_shoe_31 ?_
      refine AW.iret dX11_shoe_32 ?_ ?_
      all_goals first | rfl | exact congrArg (fun z : Int => (some (vI z) : Option AV)) (b2_t (by omega)) | exact congrArg (fun z : Int => (some (vI z) : Option AV)) (b2_f (by omega)) | ((repeat' split) <;> first | rfl | omega) | (refine congrArg (fun z : Int => (some (vI z) : Option AV)) ?_; (repeat' split) <;> first | rfl | omega)
    · refine AW.iload_n (pc' := 22) dX11_shoe_21 rfl ?_
      refine AW.iconst (pc' := 23) dX11_shoe_22 ?_
      refine AW.bipush (pc' := 25) dX11_shoe_23 (by decide) ?_
      refine AW.invS3 (pc' := 28) dX11_shoe_25 mlX11_89 mX11_within (c_X11_within (dep := dep - 1) (by first | assumption | omega | (constructor <;> omega) | (simp only [Int.toNat_natCast]; omega) | exact b2_in _) (by first | assumption | omega | (constructor <;> omega) | (simp only [Int.toNat_natCast]; omega) | exact b2_in _) (by first | assumption | omega | (constructor <;> omega) | (simp only [Int.toNat_natCast]; omega) | exact b2_in _)) ?_
      refine AW.ifb_ne (tgt := 33) (pc' := 31) dX11_shoe_28 (fun c28 => ?_) (fun c28 => ?_)
      · refine AW.aload_n (pc' := 34) dX11_shoe_33 rfl ?_
        refine AW.getR (pc' := 37) dX11_shoe_34 ly_0 fX11_19 rfl ?_
        refine AW.iload_n (pc' := 38) dX11_shoe_37 rfl ?_
        refine AW.iload_n (pc' := 39) dX11_shoe_38 rfl ?_
        refine AW.iload_n (pc' := 40) dX11_shoe_39 rfl ?_
        refine AW.invV3 (pc' := 43) dX11_shoe_40 mlX11_98 mX9_come ly_6 rfl (c_X9_come (dep := dep - 1) (by first | assumption | omega | (constructor <;> omega) | (simp only [Int.toNat_natCast]; omega) | exact b2_in _) (by first | assumption | omega | (constructor <;> omega) | (simp only [Int.toNat_natCast]; omega) | exact b2_in _) (by first | assumption | omega | (constructor <;> omega) | (simp only [Int.toNat_natCast]; omega) | exact b2_in _) (by first | assumption | omega | (constructor <;> omega) | (simp only [Int.toNat_natCast]; omega) | exact b2_in _)) ?_
        refine AW.iret dX11_shoe_43 ?_ ?_
        all_goals first | rfl | exact congrArg (fun z : Int => (some (vI z) : Option AV)) (b2_t (by omega)) | exact congrArg (fun z : Int => (some (vI z) : Option AV)) (b2_f (by omega)) | ((repeat' split) <;> first | rfl | omega) | (refine congrArg (fun z : Int => (some (vI z) : Option AV)) ?_; (repeat' split) <;> first | rfl | omega)
      · refine AW.iconst (pc' := 32) dX11_shoe_31 ?_
        refine AW.iret dX11_shoe_32 ?_ ?_
        all_goals first | rfl | exact congrArg (fun z : Int => (some (vI z) : Option AV)) (b2_t (by omega)) | exact congrArg (fun z : Int => (some (vI z) : Option AV)) (b2_f (by omega)) | ((repeat' split) <;> first | rfl | omega) | (refine congrArg (fun z : Int => (some (vI z) : Option AV)) ?_; (repeat' split) <;> first | rfl | omega)
set_option maxRecDepth 100000 in
set_option maxHeartbeats 4000000 in
theorem c_X12_runner {K : KT} {dep : Nat} {h : Hp} {a b : Int} (hd : 1 ≤ dep) (qb : 0 ≤ h 57 13 ∧ h 57 13 ≤ 20) (q1 : inI a) (q2 : inI b) : AM K yX12_runner cX12_runner 3 (some .int) dep [vR 57, vI a, vI b] h (some (vI (if ¬ ((600 ≤ a ∧ a ≤ 9999) ∧ (0 ≤ b ∧ b ≤ 100999) ∧ b.tmod 10 ≤ 1) then -1 else if h 57 13 = 20 then -3 else h 57 13))) (if ¬ ((600 ≤ a ∧ a ≤ 9999) ∧ (0 ≤ b ∧ b ≤ 100999) ∧ b.tmod 10 ≤ 1) then h else if h 57 13 = 20 then h else hset (hset (hset (hset (hset h 58 (h 57 13).toNat a) 59 (h 57 13).toNat (b.tdiv 1000 - 50)) 60 (h 57 13).toNat ((b.tdiv 10).tmod 100)) 61 (h 57 13).toNat (b.tmod 10)) 57 13 (h 57 13 + 1)) := by
  refine AM.of (own := RX12) (ls := [some (vR 57), some (vI a), some (vI b)]) rfl (by decide +kernel) (by exact Nat.le_of_ble_eq_true rfl) rfl (fun hO => ?_)
  have t1 : 0 ≤ b → 0 ≤ b.tmod 10 ∧ b.tmod 10 ≤ 9 := fun z => by rw [Int.tmod_eq_emod_of_nonneg z]; omega
  have t2 : 0 ≤ b → 0 ≤ b.tdiv 1000 ∧ b.tdiv 1000 ≤ b := fun z => tdiv_le z (by decide)
  have t3 : 0 ≤ b → 0 ≤ b.tdiv 10 ∧ b.tdiv 10 ≤ b := fun z => tdiv_le z (by decide)
  have t4 : 0 ≤ b → 0 ≤ (b.tdiv 10).tmod 100 ∧ (b.tdiv 10).tmod 100 ≤ 99 := fun z => by rw [Int.tmod_eq_emod_of_nonneg (t3 z).1]; omega
  have t5 : -2147483647 ≤ b.tmod 10 ∧ b.tmod 10 ≤ 2147483647 := by have := tmod_bounds (a := b) (M := 10) (by decide); omega
  refine AW.iload_n (pc' := 1) dX12_runner_0 rfl ?_
  refine AW.sipush (pc' := 4) dX12_runner_1 (by decide) ?_
  refine AW.sipush (pc' := 7) dX12_runner_4 (by decide) ?_
  refine AW.invS3 (pc' := 10) dX12_runner_7 mlX12_117 mX12_isIn (c_X12_isIn (dep := dep - 1) (by first | assumption | omega | (constructor <;> omega) | (simp only [Int.toNat_natCast]; omega) | exact b2_in _) (by first | assumption | omega | (constructor <;> omega) | (simp only [Int.toNat_natCast]; omega) | exact b2_in _) (by first | assumption | omega | (constructor <;> omega) | (simp only [Int.toNat_natCast]; omega) | exact b2_in _)) ?_
  refine AW.ifb_eq (tgt := 31) (pc' := 13) dX12_runner_10 (fun c10 => ?_) (fun c10 => ?_)
  · refine AW.iconst (pc' := 32) dX12_runner_31 ?_
    refine AW.iret dX12_runner_32 ?_ ?_
    all_goals first | rfl | exact congrArg (fun z : Int => (some (vI z) : Option AV)) (b2_t (by omega)) | exact congrArg (fun z : Int => (some (vI z) : Option AV)) (b2_f (by omega)) | ((repeat' split) <;> first | rfl | omega) | (refine congrArg (fun z : Int => (some (vI z) : Option AV)) ?_; (repeat' split) <;> first | rfl | omega)
  · refine AW.iload_n (pc' := 14) dX12_runner_13 rfl ?_
    refine AW.iconst (pc' := 15) dX12_runner_14 ?_
    refine AW.ldc (v := 100999) (pc' := 17) dX12_runner_15 kX12_121 ?_
    refine AW.invS3 (pc' := 20) dX12_runner_17 mlX12_117 mX12_isIn (c_X12_isIn (dep := dep - 1) (by first | assumption | omega | (constructor <;> omega) | (simp only [Int.toNat_natCast]; omega) | exact b2_in _) (by first | assumption | omega | (constructor <;> omega) | (simp only [Int.toNat_natCast]; omega) | exact b2_in _) (by first | assumption | omega | (constructor <;> omega) | (simp only [Int.toNat_natCast]; omega) | exact b2_in _)) ?_
    refine AW.ifb_eq (tgt := 31) (pc' := 23) dX12_runner_20 (fun c20 => ?_) (fun c20 => ?_)
    · refine AW.iconst (pc' := 32) dX12_runner_31 ?_
      refine AW.iret dX12_runner_32 ?_ ?_
      all_goals first | rfl | exact congrArg (fun z : Int => (some (vI z) : Option AV)) (b2_t (by omega)) | exact congrArg (fun z : Int => (some (vI z) : Option AV)) (b2_f (by omega)) | ((repeat' split) <;> first | rfl | omega) | (refine congrArg (fun z : Int => (some (vI z) : Option AV)) ?_; (repeat' split) <;> first | rfl | omega)
    · refine AW.iload_n (pc' := 24) dX12_runner_23 rfl ?_
      refine AW.bipush (pc' := 26) dX12_runner_24 (by decide) ?_
      refine AW.irem (pc' := 27) dX12_runner_26 (by first | assumption | omega | (constructor <;> omega) | (simp only [Int.toNat_natCast]; omega) | exact b2_in _) (by first | assumption | omega | (constructor <;> omega) | (simp only [Int.toNat_natCast]; omega) | exact b2_in _) (by first | assumption | omega | (constructor <;> omega) | (simp only [Int.toNat_natCast]; omega) | exact b2_in _) ?_
      refine AW.iconst (pc' := 28) dX12_runner_27 ?_
      refine AW.icmp_le (tgt := 33) (pc' := 31) dX12_runner_28 (by first | assumption | omega | (constructor <;> omega) | (simp only [Int.toNat_natCast]; omega) | exact b2_in _) (by first | assumption | omega | (constructor <;> omega) | (simp only [Int.toNat_natCast]; omega) | exact b2_in _) (fun c28 => ?_) (fun c28 => ?_)
      · refine AW.aload_n (pc' := 34) dX12_runner_33 rfl ?_
        refine AW.getI (pc' := 37) dX12_runner_34 ly_57 fX12_122 rfl (fun r34 => ?_)
        refine AW.bipush (pc' := 39) dX12_runner_37 (by decide) ?_
        refine AW.icmp_ne (tgt := 45) (pc' := 42) dX12_runner_39 (by first | assumption | omega | (constructor <;> omega) | (simp only [Int.toNat_natCast]; omega) | exact b2_in _) (by first | assumption | omega | (constructor <;> omega) | (simp only [Int.toNat_natCast]; omega) | exact b2_in _) (fun c39 => ?_) (fun c39 => ?_)
        · refine AW.aload_n (pc' := 46) dX12_runner_45 rfl ?_
          refine AW.getR (pc' := 49) dX12_runner_46 ly_57 fX12_7 rfl ?_
          refine AW.aload_n (pc' := 50) dX12_runner_49 rfl ?_
          refine AW.getI (pc' := 53) dX12_runner_50 ly_57 fX12_122 rfl (fun r50 => ?_)
          refine AW.iload_n (pc' := 54) dX12_runner_53 rfl ?_
          first | refine AW.iastN (pc' := 55) dX12_runner_54 ly_58 (by first | assumption | omega | (constructor <;> omega) | (simp only [Int.toNat_natCast]; omega) | exact b2_in _) (by decide) (by first | assumption | omega | (constructor <;> omega) | (simp only [Int.toNat_natCast]; omega) | exact b2_in _) ?_ | refine AW.iast (pc' := 55) dX12_runner_54 ly_58 (by first | assumption | omega | (constructor <;> omega) | (simp only [Int.toNat_natCast]; omega) | exact b2_in _) (by first | assumption | omega | (constructor <;> omega) | (simp only [Int.toNat_natCast]; omega) | exact b2_in _) (by decide) (by first | assumption | omega | (constructor <;> omega) | (simp only [Int.toNat_natCast]; omega) | exact b2_in _) ?_
          refine AW.aload_n (pc' := 56) dX12_runner_55 rfl ?_
          refine AW.getR (pc' := 59) dX12_runner_56 ly_57 fX12_13 rfl ?_
          refine AW.aload_n (pc' := 60) dX12_runner_59 rfl ?_
          refine AW.getI (pc' := 63) dX12_runner_60 ly_57 fX12_122 rfl (fun r60 => ?_)
          try simp only [hset_app, Nat.reduceEqDiff, false_and, and_false, true_and, and_true, reduceIte] at r60 ⊢
          refine AW.iload_n (pc' := 64) dX12_runner_63 rfl ?_
          refine AW.sipush (pc' := 67) dX12_runner_64 (by decide) ?_
          refine AW.idiv (pc' := 68) dX12_runner_67 (by first | assumption | omega | (constructor <;> omega) | (simp only [Int.toNat_natCast]; omega) | exact b2_in _) (by first | assumption | omega | (constructor <;> omega) | (simp only [Int.toNat_natCast]; omega) | exact b2_in _) (by first | assumption | omega | (constructor <;> omega) | (simp only [Int.toNat_natCast]; omega) | exact b2_in _) ?_
          refine AW.bipush (pc' := 70) dX12_runner_68 (by decide) ?_
          refine AW.isub (pc' := 71) dX12_runner_70 ?_
          first | refine AW.iastN (pc' := 72) dX12_runner_71 ly_59 (by first | assumption | omega | (constructor <;> omega) | (simp only [Int.toNat_natCast]; omega) | exact b2_in _) (by decide) (by first | assumption | omega | (constructor <;> omega) | (simp only [Int.toNat_natCast]; omega) | exact b2_in _) ?_ | refine AW.iast (pc' := 72) dX12_runner_71 ly_59 (by first | assumption | omega | (constructor <;> omega) | (simp only [Int.toNat_natCast]; omega) | exact b2_in _) (by first | assumption | omega | (constructor <;> omega) | (simp only [Int.toNat_natCast]; omega) | exact b2_in _) (by decide) (by first | assumption | omega | (constructor <;> omega) | (simp only [Int.toNat_natCast]; omega) | exact b2_in _) ?_
          refine AW.aload_n (pc' := 73) dX12_runner_72 rfl ?_
          refine AW.getR (pc' := 76) dX12_runner_73 ly_57 fX12_16 rfl ?_
          refine AW.aload_n (pc' := 77) dX12_runner_76 rfl ?_
          refine AW.getI (pc' := 80) dX12_runner_77 ly_57 fX12_122 rfl (fun r77 => ?_)
          try simp only [hset_app, Nat.reduceEqDiff, false_and, and_false, true_and, and_true, reduceIte] at r77 ⊢
          refine AW.iload_n (pc' := 81) dX12_runner_80 rfl ?_
          refine AW.bipush (pc' := 83) dX12_runner_81 (by decide) ?_
          refine AW.idiv (pc' := 84) dX12_runner_83 (by first | assumption | omega | (constructor <;> omega) | (simp only [Int.toNat_natCast]; omega) | exact b2_in _) (by first | assumption | omega | (constructor <;> omega) | (simp only [Int.toNat_natCast]; omega) | exact b2_in _) (by first | assumption | omega | (constructor <;> omega) | (simp only [Int.toNat_natCast]; omega) | exact b2_in _) ?_
          refine AW.bipush (pc' := 86) dX12_runner_84 (by decide) ?_
          refine AW.irem (pc' := 87) dX12_runner_86 (by first | assumption | omega | (constructor <;> omega) | (simp only [Int.toNat_natCast]; omega) | exact b2_in _) (by first | assumption | omega | (constructor <;> omega) | (simp only [Int.toNat_natCast]; omega) | exact b2_in _) (by first | assumption | omega | (constructor <;> omega) | (simp only [Int.toNat_natCast]; omega) | exact b2_in _) ?_
          first | refine AW.iastN (pc' := 88) dX12_runner_87 ly_60 (by first | assumption | omega | (constructor <;> omega) | (simp only [Int.toNat_natCast]; omega) | exact b2_in _) (by decide) (by first | assumption | omega | (constructor <;> omega) | (simp only [Int.toNat_natCast]; omega) | exact b2_in _) ?_ | refine AW.iast (pc' := 88) dX12_runner_87 ly_60 (by first | assumption | omega | (constructor <;> omega) | (simp only [Int.toNat_natCast]; omega) | exact b2_in _) (by first | assumption | omega | (constructor <;> omega) | (simp only [Int.toNat_natCast]; omega) | exact b2_in _) (by decide) (by first | assumption | omega | (constructor <;> omega) | (simp only [Int.toNat_natCast]; omega) | exact b2_in _) ?_
          refine AW.aload_n (pc' := 89) dX12_runner_88 rfl ?_
          refine AW.getR (pc' := 92) dX12_runner_89 ly_57 fX12_19 rfl ?_
          refine AW.aload_n (pc' := 93) dX12_runner_92 rfl ?_
          refine AW.getI (pc' := 96) dX12_runner_93 ly_57 fX12_122 rfl (fun r93 => ?_)
          try simp only [hset_app, Nat.reduceEqDiff, false_and, and_false, true_and, and_true, reduceIte] at r93 ⊢
          refine AW.iload_n (pc' := 97) dX12_runner_96 rfl ?_
          refine AW.bipush (pc' := 99) dX12_runner_97 (by decide) ?_
          refine AW.irem (pc' := 100) dX12_runner_99 (by first | assumption | omega | (constructor <;> omega) | (simp only [Int.toNat_natCast]; omega) | exact b2_in _) (by first | assumption | omega | (constructor <;> omega) | (simp only [Int.toNat_natCast]; omega) | exact b2_in _) (by first | assumption | omega | (constructor <;> omega) | (simp only [Int.toNat_natCast]; omega) | exact b2_in _) ?_
          first | refine AW.iastN (pc' := 101) dX12_runner_100 ly_61 (by first | assumption | omega | (constructor <;> omega) | (simp only [Int.toNat_natCast]; omega) | exact b2_in _) (by decide) (by first | assumption | omega | (constructor <;> omega) | (simp only [Int.toNat_natCast]; omega) | exact b2_in _) ?_ | refine AW.iast (pc' := 101) dX12_runner_100 ly_61 (by first | assumption | omega | (constructor <;> omega) | (simp only [Int.toNat_natCast]; omega) | exact b2_in _) (by first | assumption | omega | (constructor <;> omega) | (simp only [Int.toNat_natCast]; omega) | exact b2_in _) (by decide) (by first | assumption | omega | (constructor <;> omega) | (simp only [Int.toNat_natCast]; omega) | exact b2_in _) ?_
          refine AW.aload_n (pc' := 102) dX12_runner_101 rfl ?_
          refine AW.dup (pc' := 103) dX12_runner_102 rfl ?_
          refine AW.getI (pc' := 106) dX12_runner_103 ly_57 fX12_122 rfl (fun r103 => ?_)
          try simp only [hset_app, Nat.reduceEqDiff, false_and, and_false, true_and, and_true, reduceIte] at r103 ⊢
          refine AW.iconst (pc' := 107) dX12_runner_106 ?_
          refine AW.iadd (pc' := 108) dX12_runner_107 ?_
          refine AW.putI (pc' := 111) dX12_runner_108 ly_57 pX12_122 rfl (by first | assumption | omega | (constructor <;> omega) | (simp only [Int.toNat_natCast]; omega) | exact b2_in _) ?_
          refine AW.aload_n (pc' := 112) dX12_runner_111 rfl ?_
          refine AW.getI (pc' := 115) dX12_runner_112 ly_57 fX12_122 rfl (fun r112 => ?_)
          try simp only [hset_app, Nat.reduceEqDiff, false_and, and_false, true_and, and_true, reduceIte] at r112 ⊢
          refine AW.iconst (pc' := 116) dX12_runner_115 ?_
          refine AW.isub (pc' := 117) dX12_runner_116 ?_
          refine AW.iret dX12_runner_117 ?_ ?_
          all_goals first | rfl | exact congrArg (fun z : Int => (some (vI z) : Option AV)) (b2_t (by omega)) | exact congrArg (fun z : Int => (some (vI z) : Option AV)) (b2_f (by omega)) | ((repeat' split) <;> first | rfl | omega) | (refine congrArg (fun z : Int => (some (vI z) : Option AV)) ?_; (repeat' split) <;> first | rfl | omega)
        · refine AW.bipush (pc' := 44) dX12_runner_42 (by decide) ?_
          refine AW.iret dX12_runner_44 ?_ ?_
          all_goals first | rfl | exact congrArg (fun z : Int => (some (vI z) : Option AV)) (b2_t (by omega)) | exact congrArg (fun z : Int => (some (vI z) : Option AV)) (b2_f (by omega)) | ((repeat' split) <;> first | rfl | omega) | (refine congrArg (fun z : Int => (some (vI z) : Option AV)) ?_; (repeat' split) <;> first | rfl | omega)
      · refine AW.iconst (pc' := 32) dX12_runner_31 ?_
        refine AW.iret dX12_runner_32 ?_ ?_
        all_goals first | rfl | exact congrArg (fun z : Int => (some (vI z) : Option AV)) (b2_t (by omega)) | exact congrArg (fun z : Int => (some (vI z) : Option AV)) (b2_f (by omega)) | ((repeat' split) <;> first | rfl | omega) | (refine congrArg (fun z : Int => (some (vI z) : Option AV)) ?_; (repeat' split) <;> first | rfl | omega)
set_option maxRecDepth 100000 in
set_option maxHeartbeats 4000000 in
theorem c_X11_runner {K : KT} {dep : Nat} {h : Hp} {a b : Int} (hd : 1 ≤ dep) (qb : 0 ≤ h 1 4) (q1 : inI a) (q2 : inI b) : AM K yX11_runner cX11_runner 3 (some .int) dep [vR 0, vI a, vI b] h (some (vI (if ¬ ((600 ≤ a ∧ a ≤ 9999) ∧ (0 ≤ b ∧ b ≤ 100999) ∧ b.tmod 10 ≤ 1) then -1 else if 20 ≤ h 1 4 then -3 else h 1 4))) (if ¬ ((600 ≤ a ∧ a ≤ 9999) ∧ (0 ≤ b ∧ b ≤ 100999) ∧ b.tmod 10 ≤ 1) then h else if 20 ≤ h 1 4 then h else hset (hset (hset (hset (hset h 2 (h 1 4).toNat a) 3 (h 1 4).toNat (b.tdiv 1000 - 50)) 4 (h 1 4).toNat ((b.tdiv 10).tmod 100)) 5 (h 1 4).toNat (b.tmod 10)) 1 4 (h 1 4 + 1)) := by
  refine AM.of (own := RX11) (ls := [some (vR 0), some (vI a), some (vI b)]) rfl (by decide +kernel) (by exact Nat.le_of_ble_eq_true rfl) rfl (fun hO => ?_)
  have t1 : 0 ≤ b → 0 ≤ b.tmod 10 ∧ b.tmod 10 ≤ 9 := fun z => by rw [Int.tmod_eq_emod_of_nonneg z]; omega
  have t2 : 0 ≤ b → 0 ≤ b.tdiv 1000 ∧ b.tdiv 1000 ≤ b := fun z => tdiv_le z (by decide)
  have t3 : 0 ≤ b → 0 ≤ b.tdiv 10 ∧ b.tdiv 10 ≤ b := fun z => tdiv_le z (by decide)
  have t4 : 0 ≤ b → 0 ≤ (b.tdiv 10).tmod 100 ∧ (b.tdiv 10).tmod 100 ≤ 99 := fun z => by rw [Int.tmod_eq_emod_of_nonneg (t3 z).1]; omega
  have t5 : -2147483647 ≤ b.tmod 10 ∧ b.tmod 10 ≤ 2147483647 := by have := tmod_bounds (a := b) (M := 10) (by decide); omega
  refine AW.iload_n (pc' := 1) dX11_runner_0 rfl ?_
  refine AW.sipush (pc' := 4) dX11_runner_1 (by decide) ?_
  refine AW.sipush (pc' := 7) dX11_runner_4 (by decide) ?_
  refine AW.invS3 (pc' := 10) dX11_runner_7 mlX11_89 mX11_within (c_X11_within (dep := dep - 1) (by first | assumption | omega | (constructor <;> omega) | (simp only [Int.toNat_natCast]; omega) | exact b2_in _) (by first | assumption | omega | (constructor <;> omega) | (simp only [Int.toNat_natCast]; omega) | exact b2_in _) (by first | assumption | omega | (constructor <;> omega) | (simp only [Int.toNat_natCast]; omega) | exact b2_in _)) ?_
  refine AW.ifb_eq (tgt := 31) (pc' := 13) dX11_runner_10 (fun c10 => ?_) (fun c10 => ?_)
  · refine AW.iconst (pc' := 32) dX11_runner_31 ?_
    refine AW.iret dX11_runner_32 ?_ ?_
    all_goals first | rfl | exact congrArg (fun z : Int => (some (vI z) : Option AV)) (b2_t (by omega)) | exact congrArg (fun z : Int => (some (vI z) : Option AV)) (b2_f (by omega)) | ((repeat' split) <;> first | rfl | omega) | (refine congrArg (fun z : Int => (some (vI z) : Option AV)) ?_; (repeat' split) <;> first | rfl | omega)
  · refine AW.iload_n (pc' := 14) dX11_runner_13 rfl ?_
    refine AW.iconst (pc' := 15) dX11_runner_14 ?_
    refine AW.ldc (v := 100999) (pc' := 17) dX11_runner_15 kX11_93 ?_
    refine AW.invS3 (pc' := 20) dX11_runner_17 mlX11_89 mX11_within (c_X11_within (dep := dep - 1) (by first | assumption | omega | (constructor <;> omega) | (simp only [Int.toNat_natCast]; omega) | exact b2_in _) (by first | assumption | omega | (constructor <;> omega) | (simp only [Int.toNat_natCast]; omega) | exact b2_in _) (by first | assumption | omega | (constructor <;> omega) | (simp only [Int.toNat_natCast]; omega) | exact b2_in _)) ?_
    refine AW.ifb_eq (tgt := 31) (pc' := 23) dX11_runner_20 (fun c20 => ?_) (fun c20 => ?_)
    · refine AW.iconst (pc' := 32) dX11_runner_31 ?_
      refine AW.iret dX11_runner_32 ?_ ?_
      all_goals first | rfl | exact congrArg (fun z : Int => (some (vI z) : Option AV)) (b2_t (by omega)) | exact congrArg (fun z : Int => (some (vI z) : Option AV)) (b2_f (by omega)) | ((repeat' split) <;> first | rfl | omega) | (refine congrArg (fun z : Int => (some (vI z) : Option AV)) ?_; (repeat' split) <;> first | rfl | omega)
    · refine AW.iload_n (pc' := 24) dX11_runner_23 rfl ?_
      refine AW.bipush (pc' := 26) dX11_runner_24 (by decide) ?_
      refine AW.irem (pc' := 27) dX11_runner_26 (by first | assumption | omega | (constructor <;> omega) | (simp only [Int.toNat_natCast]; omega) | exact b2_in _) (by first | assumption | omega | (constructor <;> omega) | (simp only [Int.toNat_natCast]; omega) | exact b2_in _) (by first | assumption | omega | (constructor <;> omega) | (simp only [Int.toNat_natCast]; omega) | exact b2_in _) ?_
      refine AW.iconst (pc' := 28) dX11_runner_27 ?_
      refine AW.icmp_le (tgt := 33) (pc' := 31) dX11_runner_28 (by first | assumption | omega | (constructor <;> omega) | (simp only [Int.toNat_natCast]; omega) | exact b2_in _) (by first | assumption | omega | (constructor <;> omega) | (simp only [Int.toNat_natCast]; omega) | exact b2_in _) (fun c28 => ?_) (fun c28 => ?_)
      · refine AW.aload_n (pc' := 34) dX11_runner_33 rfl ?_
        refine AW.getR (pc' := 37) dX11_runner_34 ly_0 fX11_10 rfl ?_
        refine AW.iload_n (pc' := 38) dX11_runner_37 rfl ?_
        refine AW.iload_n (pc' := 39) dX11_runner_38 rfl ?_
        refine AW.sipush (pc' := 42) dX11_runner_39 (by decide) ?_
        refine AW.idiv (pc' := 43) dX11_runner_42 (by first | assumption | omega | (constructor <;> omega) | (simp only [Int.toNat_natCast]; omega) | exact b2_in _) (by first | assumption | omega | (constructor <;> omega) | (simp only [Int.toNat_natCast]; omega) | exact b2_in _) (by first | assumption | omega | (constructor <;> omega) | (simp only [Int.toNat_natCast]; omega) | exact b2_in _) ?_
        refine AW.bipush (pc' := 45) dX11_runner_43 (by decide) ?_
        refine AW.isub (pc' := 46) dX11_runner_45 ?_
        refine AW.iload_n (pc' := 47) dX11_runner_46 rfl ?_
        refine AW.bipush (pc' := 49) dX11_runner_47 (by decide) ?_
        refine AW.idiv (pc' := 50) dX11_runner_49 (by first | assumption | omega | (constructor <;> omega) | (simp only [Int.toNat_natCast]; omega) | exact b2_in _) (by first | assumption | omega | (constructor <;> omega) | (simp only [Int.toNat_natCast]; omega) | exact b2_in _) (by first | assumption | omega | (constructor <;> omega) | (simp only [Int.toNat_natCast]; omega) | exact b2_in _) ?_
        refine AW.bipush (pc' := 52) dX11_runner_50 (by decide) ?_
        refine AW.irem (pc' := 53) dX11_runner_52 (by first | assumption | omega | (constructor <;> omega) | (simp only [Int.toNat_natCast]; omega) | exact b2_in _) (by first | assumption | omega | (constructor <;> omega) | (simp only [Int.toNat_natCast]; omega) | exact b2_in _) (by first | assumption | omega | (constructor <;> omega) | (simp only [Int.toNat_natCast]; omega) | exact b2_in _) ?_
        refine AW.iload_n (pc' := 54) dX11_runner_53 rfl ?_
        refine AW.bipush (pc' := 56) dX11_runner_54 (by decide) ?_
        refine AW.irem (pc' := 57) dX11_runner_56 (by first | assumption | omega | (constructor <;> omega) | (simp only [Int.toNat_natCast]; omega) | exact b2_in _) (by first | assumption | omega | (constructor <;> omega) | (simp only [Int.toNat_natCast]; omega) | exact b2_in _) (by first | assumption | omega | (constructor <;> omega) | (simp only [Int.toNat_natCast]; omega) | exact b2_in _) ?_
        refine AW.invV4 (pc' := 60) dX11_runner_57 mlX11_94 mX6_come ly_1 rfl (c_X6_come (dep := dep - 1) (by first | assumption | omega | (constructor <;> omega) | (simp only [Int.toNat_natCast]; omega) | exact b2_in _) (by first | assumption | omega | (constructor <;> omega) | (simp only [Int.toNat_natCast]; omega) | exact b2_in _) (by first | assumption | omega | (constructor <;> omega) | (simp only [Int.toNat_natCast]; omega) | exact b2_in _) (by first | assumption | omega | (constructor <;> omega) | (simp only [Int.toNat_natCast]; omega) | exact b2_in _) (by first | assumption | omega | (constructor <;> omega) | (simp only [Int.toNat_natCast]; omega) | exact b2_in _)) ?_
        refine AW.iret dX11_runner_60 ?_ ?_
        all_goals first | rfl | exact congrArg (fun z : Int => (some (vI z) : Option AV)) (b2_t (by omega)) | exact congrArg (fun z : Int => (some (vI z) : Option AV)) (b2_f (by omega)) | ((repeat' split) <;> first | rfl | omega) | (refine congrArg (fun z : Int => (some (vI z) : Option AV)) ?_; (repeat' split) <;> first | rfl | omega)
      · refine AW.iconst (pc' := 32) dX11_runner_31 ?_
        refine AW.iret dX11_runner_32 ?_ ?_
        all_goals first | rfl | exact congrArg (fun z : Int => (some (vI z) : Option AV)) (b2_t (by omega)) | exact congrArg (fun z : Int => (some (vI z) : Option AV)) (b2_f (by omega)) | ((repeat' split) <;> first | rfl | omega) | (refine congrArg (fun z : Int => (some (vI z) : Option AV)) ?_; (repeat' split) <;> first | rfl | omega)
