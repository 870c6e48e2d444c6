/-! best, both -/
set_option maxRecDepth 100000 in
set_option maxHeartbeats 4000000 in
theorem c_X12_best {K : KT} {dep : Nat} {h : Hp} {c y w : Int} (hd : 1 ≤ dep) (hI : IMa h) (q1 : inI c) (q2 : inI y) (q3 : inI w) : AM K yX12_best cX12_best 6 (some .int) dep [vR 57, vI c, vI y, vI w] h (some (vI (if ¬ ((0 ≤ c ∧ c < h 57 15) ∧ (0 ≤ y ∧ y ≤ 99) ∧ 0 ≤ w ∧ w ≤ 1) then -1 else if bestF (-1) (h 57 16) (h 67) (oldM (h 69) (h 70) (h 63)) c < 0 then -2 else if w = 0 then bestF (-1) (h 57 16) (h 67) (oldM (h 69) (h 70) (h 63)) c else y - h 68 (bestF (-1) (h 57 16) (h 67) (oldM (h 69) (h 70) (h 63)) c).toNat))) (h) := by
  refine AM.of (own := RX12) (ls := [some (vR 57), some (vI c), some (vI y), some (vI w), none, none]) rfl (by decide +kernel) (by exact Nat.le_of_ble_eq_true rfl) rfl (fun hO => ?_)
  have g6 := hI.2.2.2.1
  have g7 := hI.2.2.2.2.1
  have g8 := hI.2.1.2.1
  have bi := bestF_in (-1) (h 57 16) (h 67) (oldM (h 69) (h 70) (h 63)) c g6
  have by1 : ∀ z : Nat, (z : Int) < h 57 16 → 0 ≤ h 68 z ∧ h 68 z ≤ 99 := fun z hz => by have := hI.2.2.2.2.2 z hz; omega
  refine AW.aload_n (pc' := 1) dX12_best_0 rfl ?_
  refine AW.iload_n (pc' := 2) dX12_best_1 rfl ?_
  refine AW.invV1 (pc' := 5) dX12_best_2 mlX12_135 mX12_isCourse ly_57 rfl (c_X12_isCourse (dep := dep - 1) (by first | assumption | omega | (constructor <;> omega) | (simp only [Int.toNat_natCast]; omega) | exact b2_in _)) ?_
  refine AW.ifb_eq (tgt := 27) (pc' := 8) dX12_best_5 (fun c5 => ?_) (fun c5 => ?_)
  · refine AW.iconst (pc' := 28) dX12_best_27 ?_
    refine AW.iret dX12_best_28 ?_ ?_
    · refine congrArg (fun z : Int => (some (vI z) : Option AV)) ?_
      (repeat' split) <;> first | rfl | omega
    · rfl
  · refine AW.iload_n (pc' := 9) dX12_best_8 rfl ?_
    refine AW.iconst (pc' := 10) dX12_best_9 ?_
    refine AW.bipush (pc' := 12) dX12_best_10 (by decide) ?_
    refine AW.invS3 (pc' := 15) dX12_best_12 mlX12_117 mX12_isIn (c_X12_isIn (dep := dep - 1) (by first | assumption | omega | (constructor <;> omega) | (simp only [Int.toNat_natCast]; omega) | exact b2_in _) (by first | assumption | omega | (constructor <;> omega) | (simp only [Int.toNat_natCast]; omega) | exact b2_in _) (by first | assumption | omega | (constructor <;> omega) | (simp only [Int.toNat_natCast]; omega) | exact b2_in _)) ?_
    refine AW.ifb_eq (tgt := 27) (pc' := 18) dX12_best_15 (fun c15 => ?_) (fun c15 => ?_)
    · refine AW.iconst (pc' := 28) dX12_best_27 ?_
      refine AW.iret dX12_best_28 ?_ ?_
      · refine congrArg (fun z : Int => (some (vI z) : Option AV)) ?_
        (repeat' split) <;> first | rfl | omega
      · rfl
    · refine AW.iload_n (pc' := 19) dX12_best_18 rfl ?_
      refine AW.iconst (pc' := 20) dX12_best_19 ?_
      refine AW.iconst (pc' := 21) dX12_best_20 ?_
      refine AW.invS3 (pc' := 24) dX12_best_21 mlX12_117 mX12_isIn (c_X12_isIn (dep := dep - 1) (by first | assumption | omega | (constructor <;> omega) | (simp only [Int.toNat_natCast]; omega) | exact b2_in _) (by first | assumption | omega | (constructor <;> omega) | (simp only [Int.toNat_natCast]; omega) | exact b2_in _) (by first | assumption | omega | (constructor <;> omega) | (simp only [Int.toNat_natCast]; omega) | exact b2_in _)) ?_
      refine AW.ifb_ne (tgt := 29) (pc' := 27) dX12_best_24 (fun c24 => ?_) (fun c24 => ?_)
      · refine AW.iconst (pc' := 30) dX12_best_29 ?_
        refine AW.istore4 (pc' := 32) dX12_best_30 (by decide) rfl ?_
        refine AW.iconst (pc' := 33) dX12_best_32 ?_
        refine AW.istore5 (pc' := 35) dX12_best_33 (by decide) rfl ?_
        refine AW.weak (lp_X12_best hI (c := c) (y := y) (w := w) (by first | assumption | omega | (constructor <;> omega) | (simp only [Int.toNat_natCast]; omega) | exact b2_in _) hd (h 57 16).toNat 0 (-1) (by omega) (Or.inl rfl) ?_) (by (repeat' first | exact LSub.e | refine LSub.n ?_ | refine LSub.c ?_ ?_) <;> first | rfl | exact congrArg Sum.inl (by first | rfl | omega | omega))
        rw [show lp (bestS (-1) (h 67) (oldM (h 69) (h 70) (h 63)) c) (h 57 16).toNat 0 (-1) = bestF (-1) (h 57 16) (h 67) (oldM (h 69) (h 70) (h 63)) c from rfl]
        refine AW.iload (pc' := 87) dX12_best_85 rfl ?_
        refine AW.if_ge (tgt := 95) (pc' := 90) dX12_best_87 (by first | assumption | omega | (constructor <;> omega) | (simp only [Int.toNat_natCast]; omega) | exact b2_in _) (fun c87 => ?_) (fun c87 => ?_)
        · refine AW.iload_n (pc' := 96) dX12_best_95 rfl ?_
          refine AW.if_ne (tgt := 104) (pc' := 99) dX12_best_96 (by first | assumption | omega | (constructor <;> omega) | (simp only [Int.toNat_natCast]; omega) | exact b2_in _) (fun c96 => ?_) (fun c96 => ?_)
          · refine AW.iload_n (pc' := 105) dX12_best_104 rfl ?_
            refine AW.aload_n (pc' := 106) dX12_best_105 rfl ?_
            refine AW.getR (pc' := 109) dX12_best_106 ly_57 fX12_40 rfl ?_
            refine AW.iload (pc' := 111) dX12_best_109 rfl ?_
            first | refine AW.ialdN (pc' := 112) dX12_best_111 ly_68 (by first | assumption | omega | (constructor <;> omega) | (simp only [Int.toNat_natCast]; omega) | exact b2_in _) (by decide) (fun r111 => ?_) | refine AW.iald (pc' := 112) dX12_best_111 ly_68 (by first | assumption | omega | (constructor <;> omega) | (simp only [Int.toNat_natCast]; omega) | exact b2_in _) (by first | assumption | omega | (constructor <;> omega) | (simp only [Int.toNat_natCast]; omega) | exact b2_in _) (by decide) (fun r111 => ?_)
            refine AW.isub (pc' := 113) dX12_best_112 ?_
            refine AW.iret dX12_best_113 ?_ ?_
            · refine congrArg (fun z : Int => (some (vI z) : Option AV)) ?_
              (repeat' split) <;> first | rfl | omega
            · rfl
          · refine AW.iload (pc' := 101) dX12_best_99 rfl ?_
            refine AW.goto (tgt := 113) dX12_best_101 ?_
            refine AW.iret dX12_best_113 ?_ ?_
            · refine congrArg (fun z : Int => (some (vI z) : Option AV)) ?_
              (repeat' split) <;> first | rfl | omega
            · rfl
        · refine AW.bipush (pc' := 92) dX12_best_90 (by decide) ?_
          refine AW.goto (tgt := 113) dX12_best_92 ?_
          refine AW.iret dX12_best_113 ?_ ?_
          · refine congrArg (fun z : Int => (some (vI z) : Option AV)) ?_
            (repeat' split) <;> first | rfl | omega
          · rfl
      · refine AW.iconst (pc' := 28) dX12_best_27 ?_
        refine AW.iret dX12_best_28 ?_ ?_
        · refine congrArg (fun z : Int => (some (vI z) : Option AV)) ?_
          (repeat' split) <;> first | rfl | omega
        · rfl
set_option maxRecDepth 100000 in
set_option maxHeartbeats 4000000 in
theorem c_X11_best {K : KT} {dep : Nat} {h : Hp} {c y w : Int} (hd : 4 ≤ dep) (hI : IXa h) (q1 : inI c) (q2 : inI y) (q3 : inI w) : AM K yX11_best cX11_best 5 (some .int) dep [vR 0, vI c, vI y, vI w] h (some (vI (if ¬ ((0 ≤ c ∧ c < h 10 1) ∧ (0 ≤ y ∧ y ≤ 99) ∧ 0 ≤ w ∧ w ≤ 1) then -1 else if bestF (-2) (h 12 10) (h 14) (oldM (h 16) (h 17) (h 8)) c < 0 then -2 else if w = 0 then bestF (-2) (h 12 10) (h 14) (oldM (h 16) (h 17) (h 8)) c else y - h 15 (bestF (-2) (h 12 10) (h 14) (oldM (h 16) (h 17) (h 8)) c).toNat))) (h) := by
  refine AM.of (own := RX11) (ls := [some (vR 0), some (vI c), some (vI y), some (vI w), none]) rfl (by decide +kernel) (by exact Nat.le_of_ble_eq_true rfl) rfl (fun hO => ?_)
  have g6 := hI.2.2.2.1
  have g7 := hI.2.2.2.2.1
  have g8 := hI.2.1.2.1
  have bi := bestF_in (-2) (h 12 10) (h 14) (oldM (h 16) (h 17) (h 8)) c g6
  have by1 : ∀ z : Nat, (z : Int) < h 12 10 → 0 ≤ h 15 z ∧ h 15 z ≤ 99 := fun z hz => by have := hI.2.2.2.2.2 z hz; omega
  refine AW.aload_n (pc' := 1) dX11_best_0 rfl ?_
  refine AW.getR (pc' := 4) dX11_best_1 ly_0 fX11_26 rfl ?_
  refine AW.iload_n (pc' := 5) dX11_best_4 rfl ?_
  refine AW.invV1 (pc' := 8) dX11_best_5 mlX11_133 mX4_has ly_10 rfl (c_X4_has (dep := dep - 1) (by first | assumption | omega | (constructor <;> omega) | (simp only [Int.toNat_natCast]; omega) | exact b2_in _)) ?_
  refine AW.ifb_eq (tgt := 30) (pc' := 11) dX11_best_8 (fun c8 => ?_) (fun c8 => ?_)
  · refine AW.iconst (pc' := 31) dX11_best_30 ?_
    refine AW.iret dX11_best_31 ?_ ?_
    · refine congrArg (fun z : Int => (some (vI z) : Option AV)) ?_
      (repeat' split) <;> first | rfl | omega
    · rfl
  · refine AW.iload_n (pc' := 12) dX11_best_11 rfl ?_
    refine AW.iconst (pc' := 13) dX11_best_12 ?_
    refine AW.bipush (pc' := 15) dX11_best_13 (by decide) ?_
    refine AW.invS3 (pc' := 18) dX11_best_15 mlX11_89 mX11_within (c_X11_within (dep := dep - 1) (by first | assumption | omega | (constructor <;> omega) | (simp only [Int.toNat_natCast]; omega) | exact b2_in _) (by first | assumption | omega | (constructor <;> omega) | (simp only [Int.toNat_natCast]; omega) | exact b2_in _) (by first | assumption | omega | (constructor <;> omega) | (simp only [Int.toNat_natCast]; omega) | exact b2_in _)) ?_
    refine AW.ifb_eq (tgt := 30) (pc' := 21) dX11_best_18 (fun c18 => ?_) (fun c18 => ?_)
    · refine AW.iconst (pc' := 31) dX11_best_30 ?_
      refine AW.iret dX11_best_31 ?_ ?_
      · refine congrArg (fun z : Int => (some (vI z) : Option AV)) ?_
        (repeat' split) <;> first | rfl | omega
      · rfl
    · refine AW.iload_n (pc' := 22) dX11_best_21 rfl ?_
      refine AW.iconst (pc' := 23) dX11_best_22 ?_
      refine AW.iconst (pc' := 24) dX11_best_23 ?_
      refine AW.invS3 (pc' := 27) dX11_best_24 mlX11_89 mX11_within (c_X11_within (dep := dep - 1) (by first | assumption | omega | (constructor <;> omega) | (simp only [Int.toNat_natCast]; omega) | exact b2_in _) (by first | assumption | omega | (constructor <;> omega) | (simp only [Int.toNat_natCast]; omega) | exact b2_in _) (by first | assumption | omega | (constructor <;> omega) | (simp only [Int.toNat_natCast]; omega) | exact b2_in _)) ?_
      refine AW.ifb_ne (tgt := 32) (pc' := 30) dX11_best_27 (fun c27 => ?_) (fun c27 => ?_)
      · refine AW.aload_n (pc' := 33) dX11_best_32 rfl ?_
        refine AW.getR (pc' := 36) dX11_best_33 ly_0 fX11_35 rfl ?_
        refine AW.iload_n (pc' := 37) dX11_best_36 rfl ?_
        refine AW.invV1 (pc' := 40) dX11_best_37 mlX11_277 mX7_bestOf ly_12 rfl (c_X7_bestOf (dep := dep - 1) (by first | assumption | omega | (constructor <;> omega) | (simp only [Int.toNat_natCast]; omega) | exact b2_in _) (by first | assumption | omega | (constructor <;> omega) | (simp only [Int.toNat_natCast]; omega) | exact b2_in _) (by first | assumption | omega | (constructor <;> omega) | (simp only [Int.toNat_natCast]; omega) | exact b2_in _)) ?_
        refine AW.istore4 (pc' := 42) dX11_best_40 (by decide) rfl ?_
        refine AW.aload_n (pc' := 43) dX11_best_42 rfl ?_
        refine AW.getR (pc' := 46) dX11_best_43 ly_0 fX11_35 rfl ?_
        refine AW.iload (pc' := 48) dX11_best_46 rfl ?_
        refine AW.invV1 (pc' := 51) dX11_best_48 mlX11_135 mX7_has ly_12 rfl (c_X7_has (dep := dep - 1) (by first | assumption | omega | (constructor <;> omega) | (simp only [Int.toNat_natCast]; omega) | exact b2_in _)) ?_
        refine AW.ifb_ne (tgt := 57) (pc' := 54) dX11_best_51 (fun c51 => ?_) (fun c51 => ?_)
        · refine AW.iload_n (pc' := 58) dX11_best_57 rfl ?_
          refine AW.if_ne (tgt := 66) (pc' := 61) dX11_best_58 (by first | assumption | omega | (constructor <;> omega) | (simp only [Int.toNat_natCast]; omega) | exact b2_in _) (fun c58 => ?_) (fun c58 => ?_)
          · refine AW.iload_n (pc' := 67) dX11_best_66 rfl ?_
            refine AW.aload_n (pc' := 68) dX11_best_67 rfl ?_
            refine AW.getR (pc' := 71) dX11_best_68 ly_0 fX11_35 rfl ?_
            refine AW.getR (pc' := 74) dX11_best_71 ly_12 fX11_141 rfl ?_
            refine AW.iload (pc' := 76) dX11_best_74 rfl ?_
            first | refine AW.ialdN (pc' := 77) dX11_best_76 ly_15 (by first | assumption | omega | (constructor <;> omega) | (simp only [Int.toNat_natCast]; omega) | exact b2_in _) (by decide) (fun r76 => ?_) | refine AW.iald (pc' := 77) dX11_best_76 ly_15 (by first | assumption | omega | (constructor <;> omega) | (simp only [Int.toNat_natCast]; omega) | exact b2_in _) (by first | assumption | omega | (constructor <;> omega) | (simp only [Int.toNat_natCast]; omega) | exact b2_in _) (by decide) (fun r76 => ?_)
            refine AW.isub (pc' := 78) dX11_best_77 ?_
            refine AW.iret dX11_best_78 ?_ ?_
            · refine congrArg (fun z : Int => (some (vI z) : Option AV)) ?_
              (repeat' split) <;> first | rfl | omega
            · rfl
          · refine AW.iload (pc' := 63) dX11_best_61 rfl ?_
            refine AW.goto (tgt := 78) dX11_best_63 ?_
            refine AW.iret dX11_best_78 ?_ ?_
            · refine congrArg (fun z : Int => (some (vI z) : Option AV)) ?_
              (repeat' split) <;> first | rfl | omega
            · rfl
        · refine AW.bipush (pc' := 56) dX11_best_54 (by decide) ?_
          refine AW.iret dX11_best_56 ?_ ?_
          · refine congrArg (fun z : Int => (some (vI z) : Option AV)) ?_
            (repeat' split) <;> first | rfl | omega
          · rfl
      · refine AW.iconst (pc' := 31) dX11_best_30 ?_
        refine AW.iret dX11_best_31 ?_ ?_
        · refine congrArg (fun z : Int => (some (vI z) : Option AV)) ?_
          (repeat' split) <;> first | rfl | omega
        · rfl
