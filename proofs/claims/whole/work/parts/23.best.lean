/-! best, both -/
set_option maxRecDepth 100000 in
set_option maxHeartbeats 4000000 in
theorem c_X12_best {K : KT} {dep : Nat} {h : Hp} {c y w : Int} (hd : 1 ≤ dep) (hI : IMa h) (q1 : inI c) (q2 : inI y) (q3 : inI w) : AM K yX12_best cX12_best 6 (some .int) dep [vR 57, vI c, vI y, vI w] h (some (vI (if ¬ ((0 ≤ c ∧ c < h 57 15) ∧ (0 ≤ y ∧ y ≤ 99) ∧ 0 ≤ w ∧ w ≤ 1) then -1 else if bestF (-1) (h 57 16) (h 67) (oldM (h 69) (h 70) (h 63)) c < 0 then -2 else if w = 0 then bestF (-1) (h 57 16) (h 67) (oldM (h 69) (h 70) (h 63)) c else y - h 68 (bestF (-1) (h 57 16) (h 67) (oldM (h 69) (h 70) (h 63)) c).toNat))) (h) := by
  refine AM.of (own := RX12) (ls := [some (vR 57), some (vI c), some (vI y), some (vI w), none, none]) rfl (by decide +kernel) (by exact Nat.le_of_ble_eq_true rfl) rfl (fun hO => ?_)
  have g6 := hI.2.2.2.1
  have g7 := hI.2.2.2.2.1
  have g8 := hI.2.1.2.1
  have bi := bestF_in (-1) (h 57 16) (h 67) (oldM (h 69) (h 70) (h 63)) c g6
  have by1 : ∀ z : Nat, (z : Int) < h 57 16 → 0 ≤ h 68 z ∧ h 68 z ≤ 99 := fun z hz => by have := hI.2.2.2.2.2 z hz; omega
  refine AW.aload_n (pc' := 1) dX12_best_0 rfl ?_
  refine AW.iload_n (pc' := 2) dX12_best_1 rfl ?_
  refine AW.invV1 (pc' := 5) dX12_best_2 mlX12_135 mX12_isCourse ly_57 rfl (c_X12_isCourse (dep := dep - 1) (by first | assumption | omega | (constructor <;> omega) | (simp only [Int.toNat_natCast]; omega) | exact b2_in _)) ?_
  refine AW.ifb_eq (tgt := 27) (pc' := 8) dX12_best_5 (fun c5 => ?_) (fun c5 => ?_)
  · refine AW.iconst (pc' := 28) dX12_best_27 ?_
    refine AW.iret dX12_best_28 ?_ ?_
    · refine congrArg (fun z : Int => (some (vI z) : Option AV)) ?_
      (repeat' split) <;> first | rfl | omega
    · rfl
  · refine AW.iload_n (pc' := 9) dX12_best_8 rfl ?_
    refine AW.iconst (pc' := 10) dX12_best_9 ?_
    refine AW.bipush (pc' := 12) dX12_best_10 (by decide) ?_
    refine AW.invS3 (pc' := 15) dX12_best_12 mlX12_117 mX12_isIn (c_X12_isIn (dep := dep - 1) (by first | assumption | omega | (constructor <;> omega) | (simp only [Int.toNat_natCast]; omega) | exact b2_in _) (by first | assumption | omega | (constructor <;> omega) | (simp only [Int.toNat_natCast]; omega) | exact b2_in _) (by first | assumption | omega | (constructor <;> omega) | (simp only [Int.toNat_natCast]; omega) | exact b2_in _)) ?_
    refine AW.ifb_eq (tgt := 27) (pc' := 18) dX12_best_15 (fun c15 => ?_) (fun c15 => ?_)
    · refine AW.iconst (pc' := 28) dX12_best_27 ?_
      refine AW.iret dX12_best_28 ?_ ?_
      · refine congrArg (fun z : Int => (some (vI z) : Option AV)) ?_
        (repeat' split) <;> first | rfl | omega
      · rfl
    · refine AW.iload_n (pc' := 19) dX12_best_18 rfl ?_
      refine AW.iconst (pc' := 20) dX12_best_19 ?_
      refine AW.iconst (pc' := 21) dX12_best_20 ?_
      refine AW.invS3 (pc' := 24) dX12_best_21 mlX12_117 mX12_isIn (c_X12_isIn (dep := dep - 1) (by first | assumption | omega | (constructor <;> omega) | (simp only [Int.toNat_natCast]; omega) | exact b2_in _) (by first | assumption | omega | (constructor <;> omega) | (simp only [Int.toNat_natCast]; omega) | exact b2_in _) (by first | assumption | omega | (constructor <;> omega) | (simp only [Int.toNat_natCast]; omega) | exact b2_in _)) ?_
      refine AW.ifb_ne (tgt := 29) (pc' := 27) dX12_best_24 (fun c24 => ?_) (fun c24 => ?_)
      · refine AW.iconst (pc' := 30) dX12_best_29 ?_
        refine AW.istore4 (pc' := 32) dX12_best_30 (by decide) rfl ?_
        refine AW.iconst (pc' := 33) dX12_best_32 ?_
        refine AW.istore5 (pc' := 35) dX12_best_33 (by decide) rfl ?_
        refine AW.weak (lp_X12_best hI (c := c) (y := y) (w := w) (by first | assumption | omega | (constructor <;> omega) | (simp only [Int.toNat_natCast]; omega) | exact b2_in _) hd (h 57 16).toNat 0 (-1) (by omega) (Or.inl rfl) ?_) (by (repeat' first | exact LSub.e | refine LSub.n ?_ | refine LSub.c ?_ ?_) <;> first | rfl | exact congrArg Sum.inl (by first | rfl | omega | omega))
        rw [show lp (bestS (-1) (h 67) (oldM (h 69) (h 70) (h 63)) c) (h 57 16).toNat 0 (-1) = bestF (-1) (h 57 16) (h 67) (oldM (h 69) (h 70) (h 63)) c from rfl]
        refine AW.iload (pc' := 87) dX12_best_85 rfl ?_
        refine AW.if_ge (tgt := 95) (pc' := 90) dX12_best_87 (by first | assumption | omega | (constructor <;> omega) | (simp only [Int.toNat_natCast]; omega) | exact b2_in _) (fun c87 => ?_) (fun c87 => ?_)
        · refine AW.iload_n (pc' := 96) dX12_best_95 rfl ?_
          refine AW.if_ne (tgt := 104) (pc' := 99) dX12_best_96 (by first | assumption | omega | (constructor <;> omega) | (simp only [Int.toNat_natCast]; omega) | exact b2_in _) (fun c96 => ?_) (fun c96 => ?_)
          · refine AW.iload_n (pc' := 105) dX12_best_104 rfl ?_
            refine AW.aload_n (pc' := 106) dX12_best_105 rfl ?_
            refine AW.getR (pc' := 109) dX12_best_106 ly_57 fX12_40 rfl ?_
            refine AW.iload (pc' := 111) dX12_best_109 rfl ?_
            first | refine AW.ialdN (pc' := 112) dX12_best_111 ly_68 (by first | assumption | omega | (constructor <;> omega) | (simp only [Int.toNat_natCast]; omega) | exact b2_in _) (by decide) (fun r111 => ?_) | refine AW.iald (pc' := 112) dX12_best_111 ly_68 (by first | assumption | omega | (constructor <;> omega) | (simp only [Int.toNat_natCast]; omega) | exact b2_in _) (by first | assumption | omega | (constructor <;> omega) | (simp only [Int.toNat_natCast]; omega) | exact b2_in _) (by decide) (fun r111 => ?_)
            refine AW.isub (pc' := 113) dX12_best_112 ?_
            refine AW.iret dX12_best_113 ?_ ?_
            · refine congrArg (fun z : Int => (some (vI z) : Option AV)) ?_
              (repeat' split) <;> first | rfl | omega
            · rfl
          · refine AW.iload (pc' := 101) dX12_best_99 rfl ?_
            refine AW.goto (tgt := 113) dX12_best_101 ?_
            refine AW.iret dX12_best_113 ?_ ?_
            · refine congrArg (fun z : Int => (some (vI z) : Option AV)) ?_
              (repeat' split) <;> first | rfl | omega
            · rfl
        · refine AW.bipush (pc' := 92) dX12_best_90 (by decide) ?_
          refine AW.goto (tgt := 113) dX12_best_92 ?_
          refine AW.iret dX12_best_113 ?_ ?_
          · refine congrArg (fun z : Int => (some (vI z) : Option AV)) ?_
            (repeat' split) <;> first | rfl | omega
          · rfl
      · refine AW.iconst (pc' := 28) dX12_best_27 ?_
        refine AW.iret dX12_best_28 ?_ ?_
        · refine congrArg (fun z : Int => (some (vI z) : Option AV)) ?_
          (repeat' split) <;> first | rfl | omega
        · rfl
