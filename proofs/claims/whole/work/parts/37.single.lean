/-! laws: a single one; reading -/
theorem by8_in (c : Int) : True := trivial
set_option maxRecDepth 100000 in
set_option maxHeartbeats 4000000 in
theorem c_X5_single0 {K : KT} {dep : Nat}  {g : Hp} {s : St} {ei sg : PF} (hd : 4 ≤ dep) (hG : GI g) (hs : SI (g 26 7) s) : AM K yX5_single cX5_single 5 (some .int) dep [vR 26, vI 6] (LH g s) (some (vI (sgB (TX g) (g 26 7) (g 27) false ei sg s).1)) (LH g (sgB (TX g) (g 26 7) (g 27) false ei sg s).2) := by
  refine AM.of (own := RX5) (ls := [some (vR 26), some (vI 6), none, none, none]) rfl (by decide +kernel) (by exact Nat.le_of_ble_eq_true rfl) rfl (fun hO => ?_)
  have hLt := hG.1
  have hrow : LH g s (g 26 6).toNat = g (g 26 6).toNat := LH_row g s hG.ne
  have hby : ∀ j, inB (TX g j) := fun j => by
    have := hO.bytes hG.1 j
    rwa [hrow] at this
  have e0 := hG.2.1
  have e1 := hG.2.2
  obtain ⟨s0, s1, s2, s3⟩ := hs
  have hs : SI (g 26 7) s := ⟨s0, s1, s2, s3⟩
  have nxi := nx_in (E := g 26 7) (s := s) hby
  refine AW.aload_n (pc' := 1) dX5_single_0 rfl ?_
  refine AW.invV0 (pc' := 4) dX5_single_1 mlX5_67 mX5_next ly_26 rfl (c_X5_next (dep := dep - 1) (by first | assumption | omega | (constructor <;> omega) | (simp only [Int.toNat_natCast]; omega) | exact b2_in _) (by first | assumption | omega | (constructor <;> omega) | (simp only [Int.toNat_natCast]; omega) | exact b2_in _)) ?_
  try simp only [Int.toNat_natCast, LH_at, LH_fault, LH_6, LH_7, LH_row g s (by decide : (27 : Nat) ≠ 26)]
  refine AW.istore2n (pc' := 5) dX5_single_4 (by decide) rfl ?_
  refine AW.iload_n (pc' := 6) dX5_single_5 rfl ?_
  refine AW.invS1 (pc' := 9) dX5_single_6 mlX5_86 mX5_isDigit (c_X5_isDigit (dep := dep - 1) (by first | assumption | omega | (constructor <;> omega) | (simp only [Int.toNat_natCast]; omega) | exact b2_in _)) ?_
  try simp only [Int.toNat_natCast, LH_at, LH_fault, LH_6, LH_7, LH_row g s (by decide : (27 : Nat) ≠ 26)]
  refine AW.ifb_eq (tgt := 17) (pc' := 12) dX5_single_9 (fun c9 => ?_) (fun c9 => ?_)
  · have nd : ¬ (48 ≤ nx (TX g) (g 26 7) s ∧ nx (TX g) (g 26 7) s ≤ 57) := c9
    refine AW.iload_n (pc' := 18) dX5_single_17 rfl ?_
    refine AW.iconst (pc' := 19) dX5_single_18 ?_
    refine AW.icmp_ne (tgt := 26) (pc' := 22) dX5_single_19 (by first | assumption | omega | (constructor <;> omega) | (simp only [Int.toNat_natCast]; omega) | exact b2_in _) (by first | assumption | omega | (constructor <;> omega) | (simp only [Int.toNat_natCast]; omega) | exact b2_in _) (fun c19 => ?_) (fun c19 => ?_)
    · refine AW.ldcN (idx := 0) (pc' := 28) dX5_single_26 rfl ?_
      refine AW.iload_n (pc' := 29) dX5_single_28 rfl ?_
      refine AW.i2c (pc' := 30) dX5_single_29 ?_
      rw [i2c_of (by omega) (by omega)]
      refine AW.invT1 (pc' := 33) dX5_single_30 mlX5_94 mJ0_indexOf_0f7a4 rfl (c_J0_indexOf_0f7a4 (dep := dep - 1) (by first | assumption | omega | (constructor <;> omega) | (simp only [Int.toNat_natCast]; omega) | exact b2_in _) (by first | assumption | omega | (constructor <;> omega) | (simp only [Int.toNat_natCast]; omega) | exact b2_in _)) ?_
      try simp only [Int.toNat_natCast, LH_at, LH_fault, LH_6, LH_7, LH_row g s (by decide : (27 : Nat) ≠ 26)]
      refine AW.top (b := nmI (nx (TX g) (g 26 7) s)) (by unfold nmI; first | (rw [if_pos (by omega)]; done) | exact (if_neg c19).symm) ?_
      have nm := nmI_in (nx (TX g) (g 26 7) s)
      refine AW.istore3n (pc' := 34) dX5_single_33 (by decide) rfl ?_
      refine AW.iload_n (pc' := 35) dX5_single_34 rfl ?_
      refine AW.if_lt (tgt := 64) (pc' := 38) dX5_single_35 (by first | assumption | omega | (constructor <;> omega) | (simp only [Int.toNat_natCast]; omega) | exact b2_in _) (fun c35 => ?_) (fun c35 => ?_)
      · refine AW.iload_n (pc' := 65) dX5_single_64 rfl ?_
        refine AW.bipush (pc' := 67) dX5_single_65 (by decide) ?_
        refine AW.icmp_ge (tgt := 104) (pc' := 70) dX5_single_67 (by first | assumption | omega | (constructor <;> omega) | (simp only [Int.toNat_natCast]; omega) | exact b2_in _) (by first | assumption | omega | (constructor <;> omega) | (simp only [Int.toNat_natCast]; omega) | exact b2_in _) (fun c67 => ?_) (fun c67 => ?_)
        · refine AW.iload_n (pc' := 105) dX5_single_104 rfl ?_
          refine AW.bipush (pc' := 107) dX5_single_105 (by decide) ?_
          refine AW.icmp_ge (tgt := 135) (pc' := 110) dX5_single_107 (by first | assumption | omega | (constructor <;> omega) | (simp only [Int.toNat_natCast]; omega) | exact b2_in _) (by first | assumption | omega | (constructor <;> omega) | (simp only [Int.toNat_natCast]; omega) | exact b2_in _) (fun c107 => ?_) (fun c107 => ?_)
          · refine AW.iload_n (pc' := 136) dX5_single_135 rfl ?_
            refine AW.bipush (pc' := 138) dX5_single_136 (by decide) ?_
            refine AW.icmp_ge (tgt := 159) (pc' := 141) dX5_single_138 (by first | assumption | omega | (constructor <;> omega) | (simp only [Int.toNat_natCast]; omega) | exact b2_in _) (by first | assumption | omega | (constructor <;> omega) | (simp only [Int.toNat_natCast]; omega) | exact b2_in _) (fun c138 => ?_) (fun c138 => ?_)
            · refine AW.aload_n (pc' := 160) dX5_single_159 rfl ?_
              refine AW.invV0v (pc' := 163) dX5_single_160 mlX5_64 mX5_fail ly_26 rfl (c_X5_fail (dep := dep - 1) (by first | assumption | omega | (constructor <;> omega) | (simp only [Int.toNat_natCast]; omega) | exact b2_in _) (by first | assumption | omega | (constructor <;> omega) | (simp only [Int.toNat_natCast]; omega) | exact b2_in _)) ?_
              try simp only [Int.toNat_natCast, LH_at, LH_fault, LH_6, LH_7, LH_row g s (by decide : (27 : Nat) ≠ 26)]
              refine AW.iconst (pc' := 164) dX5_single_163 ?_
              refine AW.iret dX5_single_164 ?_ ?_
              · refine congrArg (fun z : Int => (some (vI z) : Option AV)) ?_
                unfold sgB
                rw [if_neg nd, if_neg (by omega), if_neg (fun y => Bool.noConfusion y.1), if_neg (fun y => Bool.noConfusion y.1), if_neg (fun y => Bool.noConfusion y.1)]
                try rfl
              · unfold sgB
                rw [if_neg nd, if_neg (by omega), if_neg (fun y => Bool.noConfusion y.1), if_neg (fun y => Bool.noConfusion y.1), if_neg (fun y => Bool.noConfusion y.1)]
                try rfl
            · omega
          · omega
        · omega
      · have nl := nx_lt (T := TX g) (E := g 26 7) (s := s) rfl (nmI_no (by omega))
        refine AW.iload_n (pc' := 39) dX5_single_38 rfl ?_
        refine AW.aload_n (pc' := 40) dX5_single_39 rfl ?_
        refine AW.getR (pc' := 43) dX5_single_40 ly_26 fX5_9 rfl ?_
        refine AW.lenI (pc' := 44) dX5_single_43 ly_27 ?_
        refine AW.icmp_ge (tgt := 64) (pc' := 47) dX5_single_44 (by first | assumption | omega | (constructor <;> omega) | (simp only [Int.toNat_natCast]; omega) | exact b2_in _) (by first | assumption | omega | (constructor <;> omega) | (simp only [Int.toNat_natCast]; omega) | exact b2_in _) (fun c44 => ?_) (fun c44 => ?_)
        · refine AW.iload_n (pc' := 65) dX5_single_64 rfl ?_
          refine AW.bipush (pc' := 67) dX5_single_65 (by decide) ?_
          refine AW.icmp_ge (tgt := 104) (pc' := 70) dX5_single_67 (by first | assumption | omega | (constructor <;> omega) | (simp only [Int.toNat_natCast]; omega) | exact b2_in _) (by first | assumption | omega | (constructor <;> omega) | (simp only [Int.toNat_natCast]; omega) | exact b2_in _) (fun c67 => ?_) (fun c67 => ?_)
          · refine AW.iload_n (pc' := 105) dX5_single_104 rfl ?_
            refine AW.bipush (pc' := 107) dX5_single_105 (by decide) ?_
            refine AW.icmp_ge (tgt := 135) (pc' := 110) dX5_single_107 (by first | assumption | omega | (constructor <;> omega) | (simp only [Int.toNat_natCast]; omega) | exact b2_in _) (by first | assumption | omega | (constructor <;> omega) | (simp only [Int.toNat_natCast]; omega) | exact b2_in _) (fun c107 => ?_) (fun c107 => ?_)
            · refine AW.iload_n (pc' := 136) dX5_single_135 rfl ?_
              refine AW.bipush (pc' := 138) dX5_single_136 (by decide) ?_
              refine AW.icmp_ge (tgt := 159) (pc' := 141) dX5_single_138 (by first | assumption | omega | (constructor <;> omega) | (simp only [Int.toNat_natCast]; omega) | exact b2_in _) (by first | assumption | omega | (constructor <;> omega) | (simp only [Int.toNat_natCast]; omega) | exact b2_in _) (fun c138 => ?_) (fun c138 => ?_)
              · refine AW.aload_n (pc' := 160) dX5_single_159 rfl ?_
                refine AW.invV0v (pc' := 163) dX5_single_160 mlX5_64 mX5_fail ly_26 rfl (c_X5_fail (dep := dep - 1) (by first | assumption | omega | (constructor <;> omega) | (simp only [Int.toNat_natCast]; omega) | exact b2_in _) (by first | assumption | omega | (constructor <;> omega) | (simp only [Int.toNat_natCast]; omega) | exact b2_in _)) ?_
                try simp only [Int.toNat_natCast, LH_at, LH_fault, LH_6, LH_7, LH_row g s (by decide : (27 : Nat) ≠ 26)]
                refine AW.iconst (pc' := 164) dX5_single_163 ?_
                refine AW.iret dX5_single_164 ?_ ?_
                · refine congrArg (fun z : Int => (some (vI z) : Option AV)) ?_
                  unfold sgB
                  rw [if_neg nd, if_neg (by omega), if_neg (fun y => Bool.noConfusion y.1), if_neg (fun y => Bool.noConfusion y.1), if_neg (fun y => Bool.noConfusion y.1)]
                  try rfl
                · unfold sgB
                  rw [if_neg nd, if_neg (by omega), if_neg (fun y => Bool.noConfusion y.1), if_neg (fun y => Bool.noConfusion y.1), if_neg (fun y => Bool.noConfusion y.1)]
                  try rfl
              · omega
            · omega
          · omega
        · refine AW.aload_n (pc' := 48) dX5_single_47 rfl ?_
          refine AW.dup (pc' := 49) dX5_single_48 rfl ?_
          refine AW.getI (pc' := 52) dX5_single_49 ly_26 fX5_53 rfl (fun r49 => ?_)
          try simp only [LH_at, LH_fault, LH_6, LH_7, LH_row g s (by decide : (27 : Nat) ≠ 26)] at r49 ⊢
          try simp only [hset_app, Nat.reduceEqDiff, false_and, and_false, true_and, and_true, reduceIte] at r49 ⊢
          refine AW.iconst (pc' := 53) dX5_single_52 ?_
          refine AW.iadd (pc' := 54) dX5_single_53 ?_
          refine AW.putI (pc' := 57) dX5_single_54 ly_26 pX5_53 rfl (by first | assumption | omega | (constructor <;> omega) | (simp only [Int.toNat_natCast]; omega) | exact b2_in _) ?_
          simp only [LH_pat]
          refine AW.aload_n (pc' := 58) dX5_single_57 rfl ?_
          refine AW.getR (pc' := 61) dX5_single_58 ly_26 fX5_9 rfl ?_
          refine AW.iload_n (pc' := 62) dX5_single_61 rfl ?_
          first | refine AW.ialdN (pc' := 63) dX5_single_62 ly_27 (by first | assumption | omega | (constructor <;> omega) | (simp only [Int.toNat_natCast]; omega) | exact b2_in _) (by decide) (fun r62 => ?_) | refine AW.iald (pc' := 63) dX5_single_62 ly_27 (by first | assumption | omega | (constructor <;> omega) | (simp only [Int.toNat_natCast]; omega) | exact b2_in _) (by first | assumption | omega | (constructor <;> omega) | (simp only [Int.toNat_natCast]; omega) | exact b2_in _) (by decide) (fun r62 => ?_)
          try simp only [LH_at, LH_fault, LH_6, LH_7, LH_row g s (by decide : (27 : Nat) ≠ 26)] at r62 ⊢
          try simp only [hset_app, Nat.reduceEqDiff, false_and, and_false, true_and, and_true, reduceIte] at r62 ⊢
          refine AW.iret dX5_single_63 ?_ ?_
          · refine congrArg (fun z : Int => (some (vI z) : Option AV)) ?_
            unfold sgB
            rw [if_neg nd, if_pos (by omega)]
            try rfl
          · unfold sgB
            rw [if_neg nd, if_pos (by omega)]
            try rfl
    · refine AW.iconst (pc' := 23) dX5_single_22 ?_
      refine AW.goto (tgt := 33) dX5_single_23 ?_
      refine AW.top (b := nmI (nx (TX g) (g 26 7) s)) (by unfold nmI; first | (rw [if_pos (by omega)]; done) | exact (if_neg c19).symm) ?_
      have nm := nmI_in (nx (TX g) (g 26 7) s)
      refine AW.istore3n (pc' := 34) dX5_single_33 (by decide) rfl ?_
      refine AW.iload_n (pc' := 35) dX5_single_34 rfl ?_
      refine AW.if_lt (tgt := 64) (pc' := 38) dX5_single_35 (by first | assumption | omega | (constructor <;> omega) | (simp only [Int.toNat_natCast]; omega) | exact b2_in _) (fun c35 => ?_) (fun c35 => ?_)
      · refine AW.iload_n (pc' := 65) dX5_single_64 rfl ?_
        refine AW.bipush (pc' := 67) dX5_single_65 (by decide) ?_
        refine AW.icmp_ge (tgt := 104) (pc' := 70) dX5_single_67 (by first | assumption | omega | (constructor <;> omega) | (simp only [Int.toNat_natCast]; omega) | exact b2_in _) (by first | assumption | omega | (constructor <;> omega) | (simp only [Int.toNat_natCast]; omega) | exact b2_in _) (fun c67 => ?_) (fun c67 => ?_)
        · refine AW.iload_n (pc' := 105) dX5_single_104 rfl ?_
          refine AW.bipush (pc' := 107) dX5_single_105 (by decide) ?_
          refine AW.icmp_ge (tgt := 135) (pc' := 110) dX5_single_107 (by first | assumption | omega | (constructor <;> omega) | (simp only [Int.toNat_natCast]; omega) | exact b2_in _) (by first | assumption | omega | (constructor <;> omega) | (simp only [Int.toNat_natCast]; omega) | exact b2_in _) (fun c107 => ?_) (fun c107 => ?_)
          · refine AW.iload_n (pc' := 136) dX5_single_135 rfl ?_
            refine AW.bipush (pc' := 138) dX5_single_136 (by decide) ?_
            refine AW.icmp_ge (tgt := 159) (pc' := 141) dX5_single_138 (by first | assumption | omega | (constructor <;> omega) | (simp only [Int.toNat_natCast]; omega) | exact b2_in _) (by first | assumption | omega | (constructor <;> omega) | (simp only [Int.toNat_natCast]; omega) | exact b2_in _) (fun c138 => ?_) (fun c138 => ?_)
            · refine AW.aload_n (pc' := 160) dX5_single_159 rfl ?_
              refine AW.invV0v (pc' := 163) dX5_single_160 mlX5_64 mX5_fail ly_26 rfl (c_X5_fail (dep := dep - 1) (by first | assumption | omega | (constructor <;> omega) | (simp only [Int.toNat_natCast]; omega) | exact b2_in _) (by first | assumption | omega | (constructor <;> omega) | (simp only [Int.toNat_natCast]; omega) | exact b2_in _)) ?_
              try simp only [Int.toNat_natCast, LH_at, LH_fault, LH_6, LH_7, LH_row g s (by decide : (27 : Nat) ≠ 26)]
              refine AW.iconst (pc' := 164) dX5_single_163 ?_
              refine AW.iret dX5_single_164 ?_ ?_
              · refine congrArg (fun z : Int => (some (vI z) : Option AV)) ?_
                unfold sgB
                rw [if_neg nd, if_neg (by omega), if_neg (fun y => Bool.noConfusion y.1), if_neg (fun y => Bool.noConfusion y.1), if_neg (fun y => Bool.noConfusion y.1)]
                try rfl
              · unfold sgB
                rw [if_neg nd, if_neg (by omega), if_neg (fun y => Bool.noConfusion y.1), if_neg (fun y => Bool.noConfusion y.1), if_neg (fun y => Bool.noConfusion y.1)]
                try rfl
            · omega
          · omega
        · omega
      · have nl := nx_lt (T := TX g) (E := g 26 7) (s := s) rfl (nmI_no (by omega))
        refine AW.iload_n (pc' := 39) dX5_single_38 rfl ?_
        refine AW.aload_n (pc' := 40) dX5_single_39 rfl ?_
        refine AW.getR (pc' := 43) dX5_single_40 ly_26 fX5_9 rfl ?_
        refine AW.lenI (pc' := 44) dX5_single_43 ly_27 ?_
        refine AW.icmp_ge (tgt := 64) (pc' := 47) dX5_single_44 (by first | assumption | omega | (constructor <;> omega) | (simp only [Int.toNat_natCast]; omega) | exact b2_in _) (by first | assumption | omega | (constructor <;> omega) | (simp only [Int.toNat_natCast]; omega) | exact b2_in _) (fun c44 => ?_) (fun c44 => ?_)
        · refine AW.iload_n (pc' := 65) dX5_single_64 rfl ?_
          refine AW.bipush (pc' := 67) dX5_single_65 (by decide) ?_
          refine AW.icmp_ge (tgt := 104) (pc' := 70) dX5_single_67 (by first | assumption | omega | (constructor <;> omega) | (simp only [Int.toNat_natCast]; omega) | exact b2_in _) (by first | assumption | omega | (constructor <;> omega) | (simp only [Int.toNat_natCast]; omega) | exact b2_in _) (fun c67 => ?_) (fun c67 => ?_)
          · refine AW.iload_n (pc' := 105) dX5_single_104 rfl ?_
            refine AW.bipush (pc' := 107) dX5_single_105 (by decide) ?_
            refine AW.icmp_ge (tgt := 135) (pc' := 110) dX5_single_107 (by first | assumption | omega | (constructor <;> omega) | (simp only [Int.toNat_natCast]; omega) | exact b2_in _) (by first | assumption | omega | (constructor <;> omega) | (simp only [Int.toNat_natCast]; omega) | exact b2_in _) (fun c107 => ?_) (fun c107 => ?_)
            · refine AW.iload_n (pc' := 136) dX5_single_135 rfl ?_
              refine AW.bipush (pc' := 138) dX5_single_136 (by decide) ?_
              refine AW.icmp_ge (tgt := 159) (pc' := 141) dX5_single_138 (by first | assumption | omega | (constructor <;> omega) | (simp only [Int.toNat_natCast]; omega) | exact b2_in _) (by first | assumption | omega | (constructor <;> omega) | (simp only [Int.toNat_natCast]; omega) | exact b2_in _) (fun c138 => ?_) (fun c138 => ?_)
              · refine AW.aload_n (pc' := 160) dX5_single_159 rfl ?_
                refine AW.invV0v (pc' := 163) dX5_single_160 mlX5_64 mX5_fail ly_26 rfl (c_X5_fail (dep := dep - 1) (by first | assumption | omega | (constructor <;> omega) | (simp only [Int.toNat_natCast]; omega) | exact b2_in _) (by first | assumption | omega | (constructor <;> omega) | (simp only [Int.toNat_natCast]; omega) | exact b2_in _)) ?_
                try simp only [Int.toNat_natCast, LH_at, LH_fault, LH_6, LH_7, LH_row g s (by decide : (27 : Nat) ≠ 26)]
                refine AW.iconst (pc' := 164) dX5_single_163 ?_
                refine AW.iret dX5_single_164 ?_ ?_
                · refine congrArg (fun z : Int => (some (vI z) : Option AV)) ?_
                  unfold sgB
                  rw [if_neg nd, if_neg (by omega), if_neg (fun y => Bool.noConfusion y.1), if_neg (fun y => Bool.noConfusion y.1), if_neg (fun y => Bool.noConfusion y.1)]
                  try rfl
                · unfold sgB
                  rw [if_neg nd, if_neg (by omega), if_neg (fun y => Bool.noConfusion y.1), if_neg (fun y => Bool.noConfusion y.1), if_neg (fun y => Bool.noConfusion y.1)]
                  try rfl
              · omega
            · omega
          · omega
        · refine AW.aload_n (pc' := 48) dX5_single_47 rfl ?_
          refine AW.dup (pc' := 49) dX5_single_48 rfl ?_
          refine AW.getI (pc' := 52) dX5_single_49 ly_26 fX5_53 rfl (fun r49 => ?_)
          try simp only [LH_at, LH_fault, LH_6, LH_7, LH_row g s (by decide : (27 : Nat) ≠ 26)] at r49 ⊢
          try simp only [hset_app, Nat.reduceEqDiff, false_and, and_false, true_and, and_true, reduceIte] at r49 ⊢
          refine AW.iconst (pc' := 53) dX5_single_52 ?_
          refine AW.iadd (pc' := 54) dX5_single_53 ?_
          refine AW.putI (pc' := 57) dX5_single_54 ly_26 pX5_53 rfl (by first | assumption | omega | (constructor <;> omega) | (simp only [Int.toNat_natCast]; omega) | exact b2_in _) ?_
          simp only [LH_pat]
          refine AW.aload_n (pc' := 58) dX5_single_57 rfl ?_
          refine AW.getR (pc' := 61) dX5_single_58 ly_26 fX5_9 rfl ?_
          refine AW.iload_n (pc' := 62) dX5_single_61 rfl ?_
          first | refine AW.ialdN (pc' := 63) dX5_single_62 ly_27 (by first | assumption | omega | (constructor <;> omega) | (simp only [Int.toNat_natCast]; omega) | exact b2_in _) (by decide) (fun r62 => ?_) | refine AW.iald (pc' := 63) dX5_single_62 ly_27 (by first | assumption | omega | (constructor <;> omega) | (simp only [Int.toNat_natCast]; omega) | exact b2_in _) (by first | assumption | omega | (constructor <;> omega) | (simp only [Int.toNat_natCast]; omega) | exact b2_in _) (by decide) (fun r62 => ?_)
          try simp only [LH_at, LH_fault, LH_6, LH_7, LH_row g s (by decide : (27 : Nat) ≠ 26)] at r62 ⊢
          try simp only [hset_app, Nat.reduceEqDiff, false_and, and_false, true_and, and_true, reduceIte] at r62 ⊢
          refine AW.iret dX5_single_63 ?_ ?_
          · refine congrArg (fun z : Int => (some (vI z) : Option AV)) ?_
            unfold sgB
            rw [if_neg nd, if_pos (by omega)]
            try rfl
          · unfold sgB
            rw [if_neg nd, if_pos (by omega)]
            try rfl
  · refine AW.aload_n (pc' := 13) dX5_single_12 rfl ?_
    refine AW.invV0 (pc' := 16) dX5_single_13 mlX5_89 mX5_number ly_26 rfl (c_X5_number (dep := dep - 1) (by first | assumption | omega | (constructor <;> omega) | (simp only [Int.toNat_natCast]; omega) | exact b2_in _) (by first | assumption | omega | (constructor <;> omega) | (simp only [Int.toNat_natCast]; omega) | exact b2_in _) (by first | assumption | omega | (constructor <;> omega) | (simp only [Int.toNat_natCast]; omega) | exact b2_in _)) ?_
    try simp only [Int.toNat_natCast, LH_at, LH_fault, LH_6, LH_7, LH_row g s (by decide : (27 : Nat) ≠ 26)]
    refine AW.iret dX5_single_16 ?_ ?_
    · refine congrArg (fun z : Int => (some (vI z) : Option AV)) ?_
      unfold sgB
      rw [if_pos c9]
      try rfl
    · unfold sgB
      rw [if_pos c9]
      try rfl
set_option maxRecDepth 100000 in
set_option maxHeartbeats 4000000 in
theorem c_X5_singleS {K : KT} {dep : Nat}  {g : Hp} {s : St} {ei sg : PF} {d e : Nat} (hd : 4 ≤ dep) (hG : GI g) (hs : SI (g 26 7) s) (hE : PC K g yX5_either cX5_either 5 e (6 - (d : Int)) ei) (hS : PC K g yX5_single cX5_single 5 e (6 - (d : Int)) sg) (hKe : PK (g 26 7) ei) (hKs : PK (g 26 7) sg) (hde : e + 1 ≤ dep) (hd6 : d ≤ 5) : AM K yX5_single cX5_single 5 (some .int) dep [vR 26, vI (6 - ((d + 1 : Nat) : Int))] (LH g s) (some (vI (sgB (TX g) (g 26 7) (g 27) true ei sg s).1)) (LH g (sgB (TX g) (g 26 7) (g 27) true ei sg s).2) := by
  refine AM.of (own := RX5) (ls := [some (vR 26), some (vI (6 - ((d + 1 : Nat) : Int))), none, none, none]) rfl (by decide +kernel) (by exact Nat.le_of_ble_eq_true rfl) rfl (fun hO => ?_)
  have hLt := hG.1
  have hrow : LH g s (g 26 6).toNat = g (g 26 6).toNat := LH_row g s hG.ne
  have hby : ∀ j, inB (TX g j) := fun j => by
    have := hO.bytes hG.1 j
    rwa [hrow] at this
  have e0 := hG.2.1
  have e1 := hG.2.2
  obtain ⟨s0, s1, s2, s3⟩ := hs
  have hs : SI (g 26 7) s := ⟨s0, s1, s2, s3⟩
  have nxi := nx_in (E := g 26 7) (s := s) hby
  refine AW.aload_n (pc' := 1) dX5_single_0 rfl ?_
  refine AW.invV0 (pc' := 4) dX5_single_1 mlX5_67 mX5_next ly_26 rfl (c_X5_next (dep := dep - 1) (by first | assumption | omega | (constructor <;> omega) | (simp only [Int.toNat_natCast]; omega) | exact b2_in _) (by first | assumption | omega | (constructor <;> omega) | (simp only [Int.toNat_natCast]; omega) | exact b2_in _)) ?_
  try simp only [Int.toNat_natCast, LH_at, LH_fault, LH_6, LH_7, LH_row g s (by decide : (27 : Nat) ≠ 26)]
  refine AW.istore2n (pc' := 5) dX5_single_4 (by decide) rfl ?_
  refine AW.iload_n (pc' := 6) dX5_single_5 rfl ?_
  refine AW.invS1 (pc' := 9) dX5_single_6 mlX5_86 mX5_isDigit (c_X5_isDigit (dep := dep - 1) (by first | assumption | omega | (constructor <;> omega) | (simp only [Int.toNat_natCast]; omega) | exact b2_in _)) ?_
  try simp only [Int.toNat_natCast, LH_at, LH_fault, LH_6, LH_7, LH_row g s (by decide : (27 : Nat) ≠ 26)]
  refine AW.ifb_eq (tgt := 17) (pc' := 12) dX5_single_9 (fun c9 => ?_) (fun c9 => ?_)
  · have nd : ¬ (48 ≤ nx (TX g) (g 26 7) s ∧ nx (TX g) (g 26 7) s ≤ 57) := c9
    refine AW.iload_n (pc' := 18) dX5_single_17 rfl ?_
    refine AW.iconst (pc' := 19) dX5_single_18 ?_
    refine AW.icmp_ne (tgt := 26) (pc' := 22) dX5_single_19 (by first | assumption | omega | (constructor <;> omega) | (simp only [Int.toNat_natCast]; omega) | exact b2_in _) (by first | assumption | omega | (constructor <;> omega) | (simp only [Int.toNat_natCast]; omega) | exact b2_in _) (fun c19 => ?_) (fun c19 => ?_)
    · refine AW.ldcN (idx := 0) (pc' := 28) dX5_single_26 rfl ?_
      refine AW.iload_n (pc' := 29) dX5_single_28 rfl ?_
      refine AW.i2c (pc' := 30) dX5_single_29 ?_
      rw [i2c_of (by omega) (by omega)]
      refine AW.invT1 (pc' := 33) dX5_single_30 mlX5_94 mJ0_indexOf_0f7a4 rfl (c_J0_indexOf_0f7a4 (dep := dep - 1) (by first | assumption | omega | (constructor <;> omega) | (simp only [Int.toNat_natCast]; omega) | exact b2_in _) (by first | assumption | omega | (constructor <;> omega) | (simp only [Int.toNat_natCast]; omega) | exact b2_in _)) ?_
      try simp only [Int.toNat_natCast, LH_at, LH_fault, LH_6, LH_7, LH_row g s (by decide : (27 : Nat) ≠ 26)]
      refine AW.top (b := nmI (nx (TX g) (g 26 7) s)) (by unfold nmI; first | (rw [if_pos (by omega)]; done) | exact (if_neg c19).symm) ?_
      have nm := nmI_in (nx (TX g) (g 26 7) s)
      refine AW.istore3n (pc' := 34) dX5_single_33 (by decide) rfl ?_
      refine AW.iload_n (pc' := 35) dX5_single_34 rfl ?_
      refine AW.if_lt (tgt := 64) (pc' := 38) dX5_single_35 (by first | assumption | omega | (constructor <;> omega) | (simp only [Int.toNat_natCast]; omega) | exact b2_in _) (fun c35 => ?_) (fun c35 => ?_)
      · refine AW.iload_n (pc' := 65) dX5_single_64 rfl ?_
        refine AW.bipush (pc' := 67) dX5_single_65 (by decide) ?_
        refine AW.icmp_ge (tgt := 104) (pc' := 70) dX5_single_67 (by first | assumption | omega | (constructor <;> omega) | (simp only [Int.toNat_natCast]; omega) | exact b2_in _) (by first | assumption | omega | (constructor <;> omega) | (simp only [Int.toNat_natCast]; omega) | exact b2_in _) (fun c67 => ?_) (fun c67 => ?_)
        · exfalso; push_cast at *; omega
        · refine AW.aload_n (pc' := 71) dX5_single_70 rfl ?_
          refine AW.bipush (pc' := 73) dX5_single_71 (by decide) ?_
          refine AW.invV1 (pc' := 76) dX5_single_73 mlX5_60 mX5_passes ly_26 rfl (c_X5_passes (dep := dep - 1) (by first | assumption | omega | (constructor <;> omega) | (simp only [Int.toNat_natCast]; omega) | exact b2_in _) (by first | assumption | omega | (constructor <;> omega) | (simp only [Int.toNat_natCast]; omega) | exact b2_in _) (by first | assumption | omega | (constructor <;> omega) | (simp only [Int.toNat_natCast]; omega) | exact b2_in _) (by first | assumption | omega | (constructor <;> omega) | (simp only [Int.toNat_natCast]; omega) | exact b2_in _) (by first | assumption | omega | (constructor <;> omega) | (simp only [Int.toNat_natCast]; omega) | exact b2_in _)) ?_
          try simp only [Int.toNat_natCast, LH_at, LH_fault, LH_6, LH_7, LH_row g s (by decide : (27 : Nat) ≠ 26)]
          refine AW.ifb_eq (tgt := 104) (pc' := 79) dX5_single_76 (fun c76 => ?_) (fun c76 => ?_)
          · have p76 : psF (TX g) (g 26 7) 40 s = s := by unfold psF; rw [if_neg c76]
            rw [p76]
            refine AW.iload_n (pc' := 105) dX5_single_104 rfl ?_
            refine AW.bipush (pc' := 107) dX5_single_105 (by decide) ?_
            refine AW.icmp_ge (tgt := 135) (pc' := 110) dX5_single_107 (by first | assumption | omega | (constructor <;> omega) | (simp only [Int.toNat_natCast]; omega) | exact b2_in _) (by first | assumption | omega | (constructor <;> omega) | (simp only [Int.toNat_natCast]; omega) | exact b2_in _) (fun c107 => ?_) (fun c107 => ?_)
            · exfalso; push_cast at *; omega
            · refine AW.aload_n (pc' := 111) dX5_single_110 rfl ?_
              refine AW.bipush (pc' := 113) dX5_single_111 (by decide) ?_
              refine AW.invV1 (pc' := 116) dX5_single_113 mlX5_60 mX5_passes ly_26 rfl (c_X5_passes (dep := dep - 1) (by first | assumption | omega | (constructor <;> omega) | (simp only [Int.toNat_natCast]; omega) | exact b2_in _) (by first | assumption | omega | (constructor <;> omega) | (simp only [Int.toNat_natCast]; omega) | exact b2_in _) (by first | assumption | omega | (constructor <;> omega) | (simp only [Int.toNat_natCast]; omega) | exact b2_in _) (by first | assumption | omega | (constructor <;> omega) | (simp only [Int.toNat_natCast]; omega) | exact b2_in _) (by first | assumption | omega | (constructor <;> omega) | (simp only [Int.toNat_natCast]; omega) | exact b2_in _)) ?_
              try simp only [Int.toNat_natCast, LH_at, LH_fault, LH_6, LH_7, LH_row g s (by decide : (27 : Nat) ≠ 26)]
              refine AW.ifb_eq (tgt := 135) (pc' := 119) dX5_single_116 (fun c116 => ?_) (fun c116 => ?_)
              · have p116 : psF (TX g) (g 26 7) 33 s = s := by unfold psF; rw [if_neg c116]
                rw [p116]
                refine AW.iload_n (pc' := 136) dX5_single_135 rfl ?_
                refine AW.bipush (pc' := 138) dX5_single_136 (by decide) ?_
                refine AW.icmp_ge (tgt := 159) (pc' := 141) dX5_single_138 (by first | assumption | omega | (constructor <;> omega) | (simp only [Int.toNat_natCast]; omega) | exact b2_in _) (by first | assumption | omega | (constructor <;> omega) | (simp only [Int.toNat_natCast]; omega) | exact b2_in _) (fun c138 => ?_) (fun c138 => ?_)
                · exfalso; push_cast at *; omega
                · refine AW.aload_n (pc' := 142) dX5_single_141 rfl ?_
                  refine AW.bipush (pc' := 144) dX5_single_142 (by decide) ?_
                  refine AW.invV1 (pc' := 147) dX5_single_144 mlX5_60 mX5_passes ly_26 rfl (c_X5_passes (dep := dep - 1) (by first | assumption | omega | (constructor <;> omega) | (simp only [Int.toNat_natCast]; omega) | exact b2_in _) (by first | assumption | omega | (constructor <;> omega) | (simp only [Int.toNat_natCast]; omega) | exact b2_in _) (by first | assumption | omega | (constructor <;> omega) | (simp only [Int.toNat_natCast]; omega) | exact b2_in _) (by first | assumption | omega | (constructor <;> omega) | (simp only [Int.toNat_natCast]; omega) | exact b2_in _) (by first | assumption | omega | (constructor <;> omega) | (simp only [Int.toNat_natCast]; omega) | exact b2_in _)) ?_
                  try simp only [Int.toNat_natCast, LH_at, LH_fault, LH_6, LH_7, LH_row g s (by decide : (27 : Nat) ≠ 26)]
                  refine AW.ifb_eq (tgt := 159) (pc' := 150) dX5_single_147 (fun c147 => ?_) (fun c147 => ?_)
                  · have p147 : psF (TX g) (g 26 7) 45 s = s := by unfold psF; rw [if_neg c147]
                    rw [p147]
                    refine AW.aload_n (pc' := 160) dX5_single_159 rfl ?_
                    refine AW.invV0v (pc' := 163) dX5_single_160 mlX5_64 mX5_fail ly_26 rfl (c_X5_fail (dep := dep - 1) (by first | assumption | omega | (constructor <;> omega) | (simp only [Int.toNat_natCast]; omega) | exact b2_in _) (by first | assumption | omega | (constructor <;> omega) | (simp only [Int.toNat_natCast]; omega) | exact b2_in _)) ?_
                    try simp only [Int.toNat_natCast, LH_at, LH_fault, LH_6, LH_7, LH_row g s (by decide : (27 : Nat) ≠ 26)]
                    refine AW.iconst (pc' := 164) dX5_single_163 ?_
                    refine AW.iret dX5_single_164 ?_ ?_
                    · refine congrArg (fun z : Int => (some (vI z) : Option AV)) ?_
                      unfold sgB
                      rw [if_neg nd, if_neg (by omega), if_neg (fun y => c76 y.2), if_neg (fun y => c116 y.2), if_neg (fun y => c147 y.2)]
                      try rfl
                    · unfold sgB
                      rw [if_neg nd, if_neg (by omega), if_neg (fun y => c76 y.2), if_neg (fun y => c116 y.2), if_neg (fun y => c147 y.2)]
                      try rfl
                  · have p147 : psF (TX g) (g 26 7) 45 s = (s.1 + 1, s.2) := by unfold psF; rw [if_pos c147]
                    rw [p147]
                    have n147 := hs.next c147 (by decide)
                    refine AW.aload_n (pc' := 151) dX5_single_150 rfl ?_
                    refine AW.iload_n (pc' := 152) dX5_single_151 rfl ?_
                    refine AW.iconst (pc' := 153) dX5_single_152 ?_
                    refine AW.iadd (pc' := 154) dX5_single_153 ?_
                    refine AW.top (b := 6 - (d : Int)) (by push_cast; omega) ?_
                    refine AW.invV1 (pc' := 157) dX5_single_154 mlX5_83 mX5_single ly_26 rfl (hS (s.1 + 1, s.2) n147) ?_
                    try simp only [Int.toNat_natCast, LH_at, LH_fault, LH_6, LH_7, LH_row g s (by decide : (27 : Nat) ≠ 26)]
                    have ke := (hKs _ n147)
                    have ks1 := ke.1
                    refine AW.ineg (pc' := 158) dX5_single_157 ?_
                    refine AW.cong (b := wr (-(sg (s.1 + 1, s.2)).1)) (wr_of _) ?_
                    have wi := wr_in (-(sg (s.1 + 1, s.2)).1)
                    refine AW.iret dX5_single_158 ?_ ?_
                    · refine congrArg (fun z : Int => (some (vI z) : Option AV)) ?_
                      unfold sgB
                      rw [if_neg nd, if_neg (by omega), if_neg (fun y => c76 y.2), if_neg (fun y => c116 y.2), if_pos ⟨rfl, c147⟩]
                      try rfl
                    · unfold sgB
                      rw [if_neg nd, if_neg (by omega), if_neg (fun y => c76 y.2), if_neg (fun y => c116 y.2), if_pos ⟨rfl, c147⟩]
                      try rfl
              · have p116 : psF (TX g) (g 26 7) 33 s = (s.1 + 1, s.2) := by unfold psF; rw [if_pos c116]
                rw [p116]
                have n116 := hs.next c116 (by decide)
                refine AW.aload_n (pc' := 120) dX5_single_119 rfl ?_
                refine AW.iload_n (pc' := 121) dX5_single_120 rfl ?_
                refine AW.iconst (pc' := 122) dX5_single_121 ?_
                refine AW.iadd (pc' := 123) dX5_single_122 ?_
                refine AW.top (b := 6 - (d : Int)) (by push_cast; omega) ?_
                refine AW.invV1 (pc' := 126) dX5_single_123 mlX5_83 mX5_single ly_26 rfl (hS (s.1 + 1, s.2) n116) ?_
                try simp only [Int.toNat_natCast, LH_at, LH_fault, LH_6, LH_7, LH_row g s (by decide : (27 : Nat) ≠ 26)]
                have ke := (hKs _ n116)
                have ks1 := ke.1
                refine AW.if_ne (tgt := 133) (pc' := 129) dX5_single_126 (by first | assumption | omega | (constructor <;> omega) | (simp only [Int.toNat_natCast]; omega) | exact b2_in _) (fun c126 => ?_) (fun c126 => ?_)
                · refine AW.iconst (pc' := 134) dX5_single_133 ?_
                  refine AW.iret dX5_single_134 ?_ ?_
                  · refine congrArg (fun z : Int => (some (vI z) : Option AV)) ?_
                    unfold sgB
                    rw [if_neg nd, if_neg (by omega), if_neg (fun y => c76 y.2), if_pos ⟨rfl, c116⟩]
                    try first | (rw [b2_t (by omega)]; done) | (rw [b2_f (by omega)]; done)
                  · unfold sgB
                    rw [if_neg nd, if_neg (by omega), if_neg (fun y => c76 y.2), if_pos ⟨rfl, c116⟩]
                    try rfl
                · refine AW.iconst (pc' := 130) dX5_single_129 ?_
                  refine AW.goto (tgt := 134) dX5_single_130 ?_
                  refine AW.iret dX5_single_134 ?_ ?_
                  · refine congrArg (fun z : Int => (some (vI z) : Option AV)) ?_
                    unfold sgB
                    rw [if_neg nd, if_neg (by omega), if_neg (fun y => c76 y.2), if_pos ⟨rfl, c116⟩]
                    try first | (rw [b2_t (by omega)]; done) | (rw [b2_f (by omega)]; done)
                  · unfold sgB
                    rw [if_neg nd, if_neg (by omega), if_neg (fun y => c76 y.2), if_pos ⟨rfl, c116⟩]
                    try rfl
          · have p76 : psF (TX g) (g 26 7) 40 s = (s.1 + 1, s.2) := by unfold psF; rw [if_pos c76]
            rw [p76]
            have n76 := hs.next c76 (by decide)
            refine AW.aload_n (pc' := 80) dX5_single_79 rfl ?_
            refine AW.iload_n (pc' := 81) dX5_single_80 rfl ?_
            refine AW.iconst (pc' := 82) dX5_single_81 ?_
            refine AW.iadd (pc' := 83) dX5_single_82 ?_
            refine AW.top (b := 6 - (d : Int)) (by push_cast; omega) ?_
            refine AW.invV1 (pc' := 86) dX5_single_83 mlX5_56 mX5_either ly_26 rfl (hE (s.1 + 1, s.2) n76) ?_
            try simp only [Int.toNat_natCast, LH_at, LH_fault, LH_6, LH_7, LH_row g s (by decide : (27 : Nat) ≠ 26)]
            refine AW.istore4 (pc' := 88) dX5_single_86 (by decide) rfl ?_
            have ke := (hKe _ n76)
            have ks1 := ke.1
            have ks2 := ke.2
            refine AW.aload_n (pc' := 89) dX5_single_88 rfl ?_
            refine AW.bipush (pc' := 91) dX5_single_89 (by decide) ?_
            refine AW.invV1 (pc' := 94) dX5_single_91 mlX5_60 mX5_passes ly_26 rfl (c_X5_passes (dep := dep - 1) (by omega) hG ks2 (by decide) (by decide)) ?_
            try simp only [Int.toNat_natCast, LH_at, LH_fault, LH_6, LH_7, LH_row g s (by decide : (27 : Nat) ≠ 26)]
            refine AW.ifb_ne (tgt := 101) (pc' := 97) dX5_single_94 (fun c94 => ?_) (fun c94 => ?_)
            · refine AW.iload (pc' := 103) dX5_single_101 rfl ?_
              refine AW.iret dX5_single_103 ?_ ?_
              · refine congrArg (fun z : Int => (some (vI z) : Option AV)) ?_
                unfold sgB
                rw [if_neg nd, if_neg (by omega), if_pos ⟨rfl, c76⟩]
                try rfl
              · unfold sgB
                rw [if_neg nd, if_neg (by omega), if_pos ⟨rfl, c76⟩]
                try first | (rw [if_pos c94]; done) | (rw [if_neg c94]; done) | (unfold psF; rw [if_pos c94, if_pos c94]; done) | (unfold psF; rw [if_pos c94, if_pos c94]; rfl) | (unfold psF; simp only [if_pos c94]; done) | (unfold psF; rw [if_neg c94]; done)
            · have p94 : psF (TX g) (g 26 7) 41 (ei (s.1 + 1, s.2)).2 = (ei (s.1 + 1, s.2)).2 := by unfold psF; rw [if_neg c94]
              rw [p94]
              have ks3 := ks2
              refine AW.aload_n (pc' := 98) dX5_single_97 rfl ?_
              refine AW.invV0v (pc' := 101) dX5_single_98 mlX5_64 mX5_fail ly_26 rfl (c_X5_fail (dep := dep - 1) hG ks3) ?_
              try simp only [Int.toNat_natCast, LH_at, LH_fault, LH_6, LH_7, LH_row g s (by decide : (27 : Nat) ≠ 26)]
              refine AW.iload (pc' := 103) dX5_single_101 rfl ?_
              refine AW.iret dX5_single_103 ?_ ?_
              · refine congrArg (fun z : Int => (some (vI z) : Option AV)) ?_
                unfold sgB
                rw [if_neg nd, if_neg (by omega), if_pos ⟨rfl, c76⟩]
                try rfl
              · unfold sgB
                rw [if_neg nd, if_neg (by omega), if_pos ⟨rfl, c76⟩]
                try first | (rw [if_pos c94]; done) | (rw [if_neg c94]; done) | (unfold psF; rw [if_pos c94, if_pos c94]; done) | (unfold psF; rw [if_pos c94, if_pos c94]; rfl) | (unfold psF; simp only [if_pos c94]; done) | (unfold psF; rw [if_neg c94]; done)
      · have nl := nx_lt (T := TX g) (E := g 26 7) (s := s) rfl (nmI_no (by omega))
        refine AW.iload_n (pc' := 39) dX5_single_38 rfl ?_
        refine AW.aload_n (pc' := 40) dX5_single_39 rfl ?_
        refine AW.getR (pc' := 43) dX5_single_40 ly_26 fX5_9 rfl ?_
        refine AW.lenI (pc' := 44) dX5_single_43 ly_27 ?_
        refine AW.icmp_ge (tgt := 64) (pc' := 47) dX5_single_44 (by first | assumption | omega | (constructor <;> omega) | (simp only [Int.toNat_natCast]; omega) | exact b2_in _) (by first | assumption | omega | (constructor <;> omega) | (simp only [Int.toNat_natCast]; omega) | exact b2_in _) (fun c44 => ?_) (fun c44 => ?_)
        · refine AW.iload_n (pc' := 65) dX5_single_64 rfl ?_
          refine AW.bipush (pc' := 67) dX5_single_65 (by decide) ?_
          refine AW.icmp_ge (tgt := 104) (pc' := 70) dX5_single_67 (by first | assumption | omega | (constructor <;> omega) | (simp only [Int.toNat_natCast]; omega) | exact b2_in _) (by first | assumption | omega | (constructor <;> omega) | (simp only [Int.toNat_natCast]; omega) | exact b2_in _) (fun c67 => ?_) (fun c67 => ?_)
          · exfalso; push_cast at *; omega
          · refine AW.aload_n (pc' := 71) dX5_single_70 rfl ?_
            refine AW.bipush (pc' := 73) dX5_single_71 (by decide) ?_
            refine AW.invV1 (pc' := 76) dX5_single_73 mlX5_60 mX5_passes ly_26 rfl (c_X5_passes (dep := dep - 1) (by first | assumption | omega | (constructor <;> omega) | (simp only [Int.toNat_natCast]; omega) | exact b2_in _) (by first | assumption | omega | (constructor <;> omega) | (simp only [Int.toNat_natCast]; omega) | exact b2_in _) (by first | assumption | omega | (constructor <;> omega) | (simp only [Int.toNat_natCast]; omega) | exact b2_in _) (by first | assumption | omega | (constructor <;> omega) | (simp only [Int.toNat_natCast]; omega) | exact b2_in _) (by first | assumption | omega | (constructor <;> omega) | (simp only [Int.toNat_natCast]; omega) | exact b2_in _)) ?_
            try simp only [Int.toNat_natCast, LH_at, LH_fault, LH_6, LH_7, LH_row g s (by decide : (27 : Nat) ≠ 26)]
            refine AW.ifb_eq (tgt := 104) (pc' := 79) dX5_single_76 (fun c76 => ?_) (fun c76 => ?_)
            · have p76 : psF (TX g) (g 26 7) 40 s = s := by unfold psF; rw [if_neg c76]
              rw [p76]
              refine AW.iload_n (pc' := 105) dX5_single_104 rfl ?_
              refine AW.bipush (pc' := 107) dX5_single_105 (by decide) ?_
              refine AW.icmp_ge (tgt := 135) (pc' := 110) dX5_single_107 (by first | assumption | omega | (constructor <;> omega) | (simp only [Int.toNat_natCast]; omega) | exact b2_in _) (by first | assumption | omega | (constructor <;> omega) | (simp only [Int.toNat_natCast]; omega) | exact b2_in _) (fun c107 => ?_) (fun c107 => ?_)
              · exfalso; push_cast at *; omega
              · refine AW.aload_n (pc' := 111) dX5_single_110 rfl ?_
                refine AW.bipush (pc' := 113) dX5_single_111 (by decide) ?_
                refine AW.invV1 (pc' := 116) dX5_single_113 mlX5_60 mX5_passes ly_26 rfl (c_X5_passes (dep := dep - 1) (by first | assumption | omega | (constructor <;> omega) | (simp only [Int.toNat_natCast]; omega) | exact b2_in _) (by first | assumption | omega | (constructor <;> omega) | (simp only [Int.toNat_natCast]; omega) | exact b2_in _) (by first | assumption | omega | (constructor <;> omega) | (simp only [Int.toNat_natCast]; omega) | exact b2_in _) (by first | assumption | omega | (constructor <;> omega) | (simp only [Int.toNat_natCast]; omega) | exact b2_in _) (by first | assumption | omega | (constructor <;> omega) | (simp only [Int.toNat_natCast]; omega) | exact b2_in _)) ?_
                try simp only [Int.toNat_natCast, LH_at, LH_fault, LH_6, LH_7, LH_row g s (by decide : (27 : Nat) ≠ 26)]
                refine AW.ifb_eq (tgt := 135) (pc' := 119) dX5_single_116 (fun c116 => ?_) (fun c116 => ?_)
                · have p116 : psF (TX g) (g 26 7) 33 s = s := by unfold psF; rw [if_neg c116]
                  rw [p116]
                  refine AW.iload_n (pc' := 136) dX5_single_135 rfl ?_
                  refine AW.bipush (pc' := 138) dX5_single_136 (by decide) ?_
                  refine AW.icmp_ge (tgt := 159) (pc' := 141) dX5_single_138 (by first | assumption | omega | (constructor <;> omega) | (simp only [Int.toNat_natCast]; omega) | exact b2_in _) (by first | assumption | omega | (constructor <;> omega) | (simp only [Int.toNat_natCast]; omega) | exact b2_in _) (fun c138 => ?_) (fun c138 => ?_)
                  · exfalso; push_cast at *; omega
                  · refine AW.aload_n (pc' := 142) dX5_single_141 rfl ?_
                    refine AW.bipush (pc' := 144) dX5_single_142 (by decide) ?_
                    refine AW.invV1 (pc' := 147) dX5_single_144 mlX5_60 mX5_passes ly_26 rfl (c_X5_passes (dep := dep - 1) (by first | assumption | omega | (constructor <;> omega) | (simp only [Int.toNat_natCast]; omega) | exact b2_in _) (by first | assumption | omega | (constructor <;> omega) | (simp only [Int.toNat_natCast]; omega) | exact b2_in _) (by first | assumption | omega | (constructor <;> omega) | (simp only [Int.toNat_natCast]; omega) | exact b2_in _) (by first | assumption | omega | (constructor <;> omega) | (simp only [Int.toNat_natCast]; omega) | exact b2_in _) (by first | assumption | omega | (constructor <;> omega) | (simp only [Int.toNat_natCast]; omega) | exact b2_in _)) ?_
                    try simp only [Int.toNat_natCast, LH_at, LH_fault, LH_6, LH_7, LH_row g s (by decide : (27 : Nat) ≠ 26)]
                    refine AW.ifb_eq (tgt := 159) (pc' := 150) dX5_single_147 (fun c147 => ?_) (fun c147 => ?_)
                    · have p147 : psF (TX g) (g 26 7) 45 s = s := by unfold psF; rw [if_neg c147]
                      rw [p147]
                      refine AW.aload_n (pc' := 160) dX5_single_159 rfl ?_
                      refine AW.invV0v (pc' := 163) dX5_single_160 mlX5_64 mX5_fail ly_26 rfl (c_X5_fail (dep := dep - 1) (by first | assumption | omega | (constructor <;> omega) | (simp only [Int.toNat_natCast]; omega) | exact b2_in _) (by first | assumption | omega | (constructor <;> omega) | (simp only [Int.toNat_natCast]; omega) | exact b2_in _)) ?_
                      try simp only [Int.toNat_natCast, LH_at, LH_fault, LH_6, LH_7, LH_row g s (by decide : (27 : Nat) ≠ 26)]
                      refine AW.iconst (pc' := 164) dX5_single_163 ?_
                      refine AW.iret dX5_single_164 ?_ ?_
                      · refine congrArg (fun z : Int => (some (vI z) : Option AV)) ?_
                        unfold sgB
                        rw [if_neg nd, if_neg (by omega), if_neg (fun y => c76 y.2), if_neg (fun y => c116 y.2), if_neg (fun y => c147 y.2)]
                        try rfl
                      · unfold sgB
                        rw [if_neg nd, if_neg (by omega), if_neg (fun y => c76 y.2), if_neg (fun y => c116 y.2), if_neg (fun y => c147 y.2)]
                        try rfl
                    · have p147 : psF (TX g) (g 26 7) 45 s = (s.1 + 1, s.2) := by unfold psF; rw [if_pos c147]
                      rw [p147]
                      have n147 := hs.next c147 (by decide)
                      refine AW.aload_n (pc' := 151) dX5_single_150 rfl ?_
                      refine AW.iload_n (pc' := 152) dX5_single_151 rfl ?_
                      refine AW.iconst (pc' := 153) dX5_single_152 ?_
                      refine AW.iadd (pc' := 154) dX5_single_153 ?_
                      refine AW.top (b := 6 - (d : Int)) (by push_cast; omega) ?_
                      refine AW.invV1 (pc' := 157) dX5_single_154 mlX5_83 mX5_single ly_26 rfl (hS (s.1 + 1, s.2) n147) ?_
                      try simp only [Int.toNat_natCast, LH_at, LH_fault, LH_6, LH_7, LH_row g s (by decide : (27 : Nat) ≠ 26)]
                      have ke := (hKs _ n147)
                      have ks1 := ke.1
                      refine AW.ineg (pc' := 158) dX5_single_157 ?_
                      refine AW.cong (b := wr (-(sg (s.1 + 1, s.2)).1)) (wr_of _) ?_
                      have wi := wr_in (-(sg (s.1 + 1, s.2)).1)
                      refine AW.iret dX5_single_158 ?_ ?_
                      · refine congrArg (fun z : Int => (some (vI z) : Option AV)) ?_
                        unfold sgB
                        rw [if_neg nd, if_neg (by omega), if_neg (fun y => c76 y.2), if_neg (fun y => c116 y.2), if_pos ⟨rfl, c147⟩]
                        try rfl
                      · unfold sgB
                        rw [if_neg nd, if_neg (by omega), if_neg (fun y => c76 y.2), if_neg (fun y => c116 y.2), if_pos ⟨rfl, c147⟩]
                        try rfl
                · have p116 : psF (TX g) (g 26 7) 33 s = (s.1 + 1, s.2) := by unfold psF; rw [if_pos c116]
                  rw [p116]
                  have n116 := hs.next c116 (by decide)
                  refine AW.aload_n (pc' := 120) dX5_single_119 rfl ?_
                  refine AW.iload_n (pc' := 121) dX5_single_120 rfl ?_
                  refine AW.iconst (pc' := 122) dX5_single_121 ?_
                  refine AW.iadd (pc' := 123) dX5_single_122 ?_
                  refine AW.top (b := 6 - (d : Int)) (by push_cast; omega) ?_
                  refine AW.invV1 (pc' := 126) dX5_single_123 mlX5_83 mX5_single ly_26 rfl (hS (s.1 + 1, s.2) n116) ?_
                  try simp only [Int.toNat_natCast, LH_at, LH_fault, LH_6, LH_7, LH_row g s (by decide : (27 : Nat) ≠ 26)]
                  have ke := (hKs _ n116)
                  have ks1 := ke.1
                  refine AW.if_ne (tgt := 133) (pc' := 129) dX5_single_126 (by first | assumption | omega | (constructor <;> omega) | (simp only [Int.toNat_natCast]; omega) | exact b2_in _) (fun c126 => ?_) (fun c126 => ?_)
                  · refine AW.iconst (pc' := 134) dX5_single_133 ?_
                    refine AW.iret dX5_single_134 ?_ ?_
                    · refine congrArg (fun z : Int => (some (vI z) : Option AV)) ?_
                      unfold sgB
                      rw [if_neg nd, if_neg (by omega), if_neg (fun y => c76 y.2), if_pos ⟨rfl, c116⟩]
                      try first | (rw [b2_t (by omega)]; done) | (rw [b2_f (by omega)]; done)
                    · unfold sgB
                      rw [if_neg nd, if_neg (by omega), if_neg (fun y => c76 y.2), if_pos ⟨rfl, c116⟩]
                      try rfl
                  · refine AW.iconst (pc' := 130) dX5_single_129 ?_
                    refine AW.goto (tgt := 134) dX5_single_130 ?_
                    refine AW.iret dX5_single_134 ?_ ?_
                    · refine congrArg (fun z : Int => (some (vI z) : Option AV)) ?_
                      unfold sgB
                      rw [if_neg nd, if_neg (by omega), if_neg (fun y => c76 y.2), if_pos ⟨rfl, c116⟩]
                      try first | (rw [b2_t (by omega)]; done) | (rw [b2_f (by omega)]; done)
                    · unfold sgB
                      rw [if_neg nd, if_neg (by omega), if_neg (fun y => c76 y.2), if_pos ⟨rfl, c116⟩]
                      try rfl
            · have p76 : psF (TX g) (g 26 7) 40 s = (s.1 + 1, s.2) := by unfold psF; rw [if_pos c76]
              rw [p76]
              have n76 := hs.next c76 (by decide)
              refine AW.aload_n (pc' := 80) dX5_single_79 rfl ?_
              refine AW.iload_n (pc' := 81) dX5_single_80 rfl ?_
              refine AW.iconst (pc' := 82) dX5_single_81 ?_
              refine AW.iadd (pc' := 83) dX5_single_82 ?_
              refine AW.top (b := 6 - (d : Int)) (by push_cast; omega) ?_
              refine AW.invV1 (pc' := 86) dX5_single_83 mlX5_56 mX5_either ly_26 rfl (hE (s.1 + 1, s.2) n76) ?_
              try simp only [Int.toNat_natCast, LH_at, LH_fault, LH_6, LH_7, LH_row g s (by decide : (27 : Nat) ≠ 26)]
              refine AW.istore4 (pc' := 88) dX5_single_86 (by decide) rfl ?_
              have ke := (hKe _ n76)
              have ks1 := ke.1
              have ks2 := ke.2
              refine AW.aload_n (pc' := 89) dX5_single_88 rfl ?_
              refine AW.bipush (pc' := 91) dX5_single_89 (by decide) ?_
              refine AW.invV1 (pc' := 94) dX5_single_91 mlX5_60 mX5_passes ly_26 rfl (c_X5_passes (dep := dep - 1) (by omega) hG ks2 (by decide) (by decide)) ?_
              try simp only [Int.toNat_natCast, LH_at, LH_fault, LH_6, LH_7, LH_row g s (by decide : (27 : Nat) ≠ 26)]
              refine AW.ifb_ne (tgt := 101) (pc' := 97) dX5_single_94 (fun c94 => ?_) (fun c94 => ?_)
              · refine AW.iload (pc' := 103) dX5_single_101 rfl ?_
                refine AW.iret dX5_single_103 ?_ ?_
                · refine congrArg (fun z : Int => (some (vI z) : Option AV)) ?_
                  unfold sgB
                  rw [if_neg nd, if_neg (by omega), if_pos ⟨rfl, c76⟩]
                  try rfl
                · unfold sgB
                  rw [if_neg nd, if_neg (by omega), if_pos ⟨rfl, c76⟩]
                  try first | (rw [if_pos c94]; done) | (rw [if_neg c94]; done) | (unfold psF; rw [if_pos c94, if_pos c94]; done) | (unfold psF; rw [if_pos c94, if_pos c94]; rfl) | (unfold psF; simp only [if_pos c94]; done) | (unfold psF; rw [if_neg c94]; done)
              · have p94 : psF (TX g) (g 26 7) 41 (ei (s.1 + 1, s.2)).2 = (ei (s.1 + 1, s.2)).2 := by unfold psF; rw [if_neg c94]
                rw [p94]
                have ks3 := ks2
                refine AW.aload_n (pc' := 98) dX5_single_97 rfl ?_
                refine AW.invV0v (pc' := 101) dX5_single_98 mlX5_64 mX5_fail ly_26 rfl (c_X5_fail (dep := dep - 1) hG ks3) ?_
                try simp only [Int.toNat_natCast, LH_at, LH_fault, LH_6, LH_7, LH_row g s (by decide : (27 : Nat) ≠ 26)]
                refine AW.iload (pc' := 103) dX5_single_101 rfl ?_
                refine AW.iret dX5_single_103 ?_ ?_
                · refine congrArg (fun z : Int => (some (vI z) : Option AV)) ?_
                  unfold sgB
                  rw [if_neg nd, if_neg (by omega), if_pos ⟨rfl, c76⟩]
                  try rfl
                · unfold sgB
                  rw [if_neg nd, if_neg (by omega), if_pos ⟨rfl, c76⟩]
                  try first | (rw [if_pos c94]; done) | (rw [if_neg c94]; done) | (unfold psF; rw [if_pos c94, if_pos c94]; done) | (unfold psF; rw [if_pos c94, if_pos c94]; rfl) | (unfold psF; simp only [if_pos c94]; done) | (unfold psF; rw [if_neg c94]; done)
        · refine AW.aload_n (pc' := 48) dX5_single_47 rfl ?_
          refine AW.dup (pc' := 49) dX5_single_48 rfl ?_
          refine AW.getI (pc' := 52) dX5_single_49 ly_26 fX5_53 rfl (fun r49 => ?_)
          try simp only [LH_at, LH_fault, LH_6, LH_7, LH_row g s (by decide : (27 : Nat) ≠ 26)] at r49 ⊢
          try simp only [hset_app, Nat.reduceEqDiff, false_and, and_false, true_and, and_true, reduceIte] at r49 ⊢
          refine AW.iconst (pc' := 53) dX5_single_52 ?_
          refine AW.iadd (pc' := 54) dX5_single_53 ?_
          refine AW.putI (pc' := 57) dX5_single_54 ly_26 pX5_53 rfl (by first | assumption | omega | (constructor <;> omega) | (simp only [Int.toNat_natCast]; omega) | exact b2_in _) ?_
          simp only [LH_pat]
          refine AW.aload_n (pc' := 58) dX5_single_57 rfl ?_
          refine AW.getR (pc' := 61) dX5_single_58 ly_26 fX5_9 rfl ?_
          refine AW.iload_n (pc' := 62) dX5_single_61 rfl ?_
          first | refine AW.ialdN (pc' := 63) dX5_single_62 ly_27 (by first | assumption | omega | (constructor <;> omega) | (simp only [Int.toNat_natCast]; omega) | exact b2_in _) (by decide) (fun r62 => ?_) | refine AW.iald (pc' := 63) dX5_single_62 ly_27 (by first | assumption | omega | (constructor <;> omega) | (simp only [Int.toNat_natCast]; omega) | exact b2_in _) (by first | assumption | omega | (constructor <;> omega) | (simp only [Int.toNat_natCast]; omega) | exact b2_in _) (by decide) (fun r62 => ?_)
          try simp only [LH_at, LH_fault, LH_6, LH_7, LH_row g s (by decide : (27 : Nat) ≠ 26)] at r62 ⊢
          try simp only [hset_app, Nat.reduceEqDiff, false_and, and_false, true_and, and_true, reduceIte] at r62 ⊢
          refine AW.iret dX5_single_63 ?_ ?_
          · refine congrArg (fun z : Int => (some (vI z) : Option AV)) ?_
            unfold sgB
            rw [if_neg nd, if_pos (by omega)]
            try rfl
          · unfold sgB
            rw [if_neg nd, if_pos (by omega)]
            try rfl
    · refine AW.iconst (pc' := 23) dX5_single_22 ?_
      refine AW.goto (tgt := 33) dX5_single_23 ?_
      refine AW.top (b := nmI (nx (TX g) (g 26 7) s)) (by unfold nmI; first | (rw [if_pos (by omega)]; done) | exact (if_neg c19).symm) ?_
      have nm := nmI_in (nx (TX g) (g 26 7) s)
      refine AW.istore3n (pc' := 34) dX5_single_33 (by decide) rfl ?_
      refine AW.iload_n (pc' := 35) dX5_single_34 rfl ?_
      refine AW.if_lt (tgt := 64) (pc' := 38) dX5_single_35 (by first | assumption | omega | (constructor <;> omega) | (simp only [Int.toNat_natCast]; omega) | exact b2_in _) (fun c35 => ?_) (fun c35 => ?_)
      · refine AW.iload_n (pc' := 65) dX5_single_64 rfl ?_
        refine AW.bipush (pc' := 67) dX5_single_65 (by decide) ?_
        refine AW.icmp_ge (tgt := 104) (pc' := 70) dX5_single_67 (by first | assumption | omega | (constructor <;> omega) | (simp only [Int.toNat_natCast]; omega) | exact b2_in _) (by first | assumption | omega | (constructor <;> omega) | (simp only [Int.toNat_natCast]; omega) | exact b2_in _) (fun c67 => ?_) (fun c67 => ?_)
        · exfalso; push_cast at *; omega
        · refine AW.aload_n (pc' := 71) dX5_single_70 rfl ?_
          refine AW.bipush (pc' := 73) dX5_single_71 (by decide) ?_
          refine AW.invV1 (pc' := 76) dX5_single_73 mlX5_60 mX5_passes ly_26 rfl (c_X5_passes (dep := dep - 1) (by first | assumption | omega | (constructor <;> omega) | (simp only [Int.toNat_natCast]; omega) | exact b2_in _) (by first | assumption | omega | (constructor <;> omega) | (simp only [Int.toNat_natCast]; omega) | exact b2_in _) (by first | assumption | omega | (constructor <;> omega) | (simp only [Int.toNat_natCast]; omega) | exact b2_in _) (by first | assumption | omega | (constructor <;> omega) | (simp only [Int.toNat_natCast]; omega) | exact b2_in _) (by first | assumption | omega | (constructor <;> omega) | (simp only [Int.toNat_natCast]; omega) | exact b2_in _)) ?_
          try simp only [Int.toNat_natCast, LH_at, LH_fault, LH_6, LH_7, LH_row g s (by decide : (27 : Nat) ≠ 26)]
          refine AW.ifb_eq (tgt := 104) (pc' := 79) dX5_single_76 (fun c76 => ?_) (fun c76 => ?_)
          · have p76 : psF (TX g) (g 26 7) 40 s = s := by unfold psF; rw [if_neg c76]
            rw [p76]
            refine AW.iload_n (pc' := 105) dX5_single_104 rfl ?_
            refine AW.bipush (pc' := 107) dX5_single_105 (by decide) ?_
            refine AW.icmp_ge (tgt := 135) (pc' := 110) dX5_single_107 (by first | assumption | omega | (constructor <;> omega) | (simp only [Int.toNat_natCast]; omega) | exact b2_in _) (by first | assumption | omega | (constructor <;> omega) | (simp only [Int.toNat_natCast]; omega) | exact b2_in _) (fun c107 => ?_) (fun c107 => ?_)
            · exfalso; push_cast at *; omega
            · refine AW.aload_n (pc' := 111) dX5_single_110 rfl ?_
              refine AW.bipush (pc' := 113) dX5_single_111 (by decide) ?_
              refine AW.invV1 (pc' := 116) dX5_single_113 mlX5_60 mX5_passes ly_26 rfl (c_X5_passes (dep := dep - 1) (by first | assumption | omega | (constructor <;> omega) | (simp only [Int.toNat_natCast]; omega) | exact b2_in _) (by first | assumption | omega | (constructor <;> omega) | (simp only [Int.toNat_natCast]; omega) | exact b2_in _) (by first | assumption | omega | (constructor <;> omega) | (simp only [Int.toNat_natCast]; omega) | exact b2_in _) (by first | assumption | omega | (constructor <;> omega) | (simp only [Int.toNat_natCast]; omega) | exact b2_in _) (by first | assumption | omega | (constructor <;> omega) | (simp only [Int.toNat_natCast]; omega) | exact b2_in _)) ?_
              try simp only [Int.toNat_natCast, LH_at, LH_fault, LH_6, LH_7, LH_row g s (by decide : (27 : Nat) ≠ 26)]
              refine AW.ifb_eq (tgt := 135) (pc' := 119) dX5_single_116 (fun c116 => ?_) (fun c116 => ?_)
              · have p116 : psF (TX g) (g 26 7) 33 s = s := by unfold psF; rw [if_neg c116]
                rw [p116]
                refine AW.iload_n (pc' := 136) dX5_single_135 rfl ?_
                refine AW.bipush (pc' := 138) dX5_single_136 (by decide) ?_
                refine AW.icmp_ge (tgt := 159) (pc' := 141) dX5_single_138 (by first | assumption | omega | (constructor <;> omega) | (simp only [Int.toNat_natCast]; omega) | exact b2_in _) (by first | assumption | omega | (constructor <;> omega) | (simp only [Int.toNat_natCast]; omega) | exact b2_in _) (fun c138 => ?_) (fun c138 => ?_)
                · exfalso; push_cast at *; omega
                · refine AW.aload_n (pc' := 142) dX5_single_141 rfl ?_
                  refine AW.bipush (pc' := 144) dX5_single_142 (by decide) ?_
                  refine AW.invV1 (pc' := 147) dX5_single_144 mlX5_60 mX5_passes ly_26 rfl (c_X5_passes (dep := dep - 1) (by first | assumption | omega | (constructor <;> omega) | (simp only [Int.toNat_natCast]; omega) | exact b2_in _) (by first | assumption | omega | (constructor <;> omega) | (simp only [Int.toNat_natCast]; omega) | exact b2_in _) (by first | assumption | omega | (constructor <;> omega) | (simp only [Int.toNat_natCast]; omega) | exact b2_in _) (by first | assumption | omega | (constructor <;> omega) | (simp only [Int.toNat_natCast]; omega) | exact b2_in _) (by first | assumption | omega | (constructor <;> omega) | (simp only [Int.toNat_natCast]; omega) | exact b2_in _)) ?_
                  try simp only [Int.toNat_natCast, LH_at, LH_fault, LH_6, LH_7, LH_row g s (by decide : (27 : Nat) ≠ 26)]
                  refine AW.ifb_eq (tgt := 159) (pc' := 150) dX5_single_147 (fun c147 => ?_) (fun c147 => ?_)
                  · have p147 : psF (TX g) (g 26 7) 45 s = s := by unfold psF; rw [if_neg c147]
                    rw [p147]
                    refine AW.aload_n (pc' := 160) dX5_single_159 rfl ?_
                    refine AW.invV0v (pc' := 163) dX5_single_160 mlX5_64 mX5_fail ly_26 rfl (c_X5_fail (dep := dep - 1) (by first | assumption | omega | (constructor <;> omega) | (simp only [Int.toNat_natCast]; omega) | exact b2_in _) (by first | assumption | omega | (constructor <;> omega) | (simp only [Int.toNat_natCast]; omega) | exact b2_in _)) ?_
                    try simp only [Int.toNat_natCast, LH_at, LH_fault, LH_6, LH_7, LH_row g s (by decide : (27 : Nat) ≠ 26)]
                    refine AW.iconst (pc' := 164) dX5_single_163 ?_
                    refine AW.iret dX5_single_164 ?_ ?_
                    · refine congrArg (fun z : Int => (some (vI z) : Option AV)) ?_
                      unfold sgB
                      rw [if_neg nd, if_neg (by omega), if_neg (fun y => c76 y.2), if_neg (fun y => c116 y.2), if_neg (fun y => c147 y.2)]
                      try rfl
                    · unfold sgB
                      rw [if_neg nd, if_neg (by omega), if_neg (fun y => c76 y.2), if_neg (fun y => c116 y.2), if_neg (fun y => c147 y.2)]
                      try rfl
                  · have p147 : psF (TX g) (g 26 7) 45 s = (s.1 + 1, s.2) := by unfold psF; rw [if_pos c147]
                    rw [p147]
                    have n147 := hs.next c147 (by decide)
                    refine AW.aload_n (pc' := 151) dX5_single_150 rfl ?_
                    refine AW.iload_n (pc' := 152) dX5_single_151 rfl ?_
                    refine AW.iconst (pc' := 153) dX5_single_152 ?_
                    refine AW.iadd (pc' := 154) dX5_single_153 ?_
                    refine AW.top (b := 6 - (d : Int)) (by push_cast; omega) ?_
                    refine AW.invV1 (pc' := 157) dX5_single_154 mlX5_83 mX5_single ly_26 rfl (hS (s.1 + 1, s.2) n147) ?_
                    try simp only [Int.toNat_natCast, LH_at, LH_fault, LH_6, LH_7, LH_row g s (by decide : (27 : Nat) ≠ 26)]
                    have ke := (hKs _ n147)
                    have ks1 := ke.1
                    refine AW.ineg (pc' := 158) dX5_single_157 ?_
                    refine AW.cong (b := wr (-(sg (s.1 + 1, s.2)).1)) (wr_of _) ?_
                    have wi := wr_in (-(sg (s.1 + 1, s.2)).1)
                    refine AW.iret dX5_single_158 ?_ ?_
                    · refine congrArg (fun z : Int => (some (vI z) : Option AV)) ?_
                      unfold sgB
                      rw [if_neg nd, if_neg (by omega), if_neg (fun y => c76 y.2), if_neg (fun y => c116 y.2), if_pos ⟨rfl, c147⟩]
                      try rfl
                    · unfold sgB
                      rw [if_neg nd, if_neg (by omega), if_neg (fun y => c76 y.2), if_neg (fun y => c116 y.2), if_pos ⟨rfl, c147⟩]
                      try rfl
              · have p116 : psF (TX g) (g 26 7) 33 s = (s.1 + 1, s.2) := by unfold psF; rw [if_pos c116]
                rw [p116]
                have n116 := hs.next c116 (by decide)
                refine AW.aload_n (pc' := 120) dX5_single_119 rfl ?_
                refine AW.iload_n (pc' := 121) dX5_single_120 rfl ?_
                refine AW.iconst (pc' := 122) dX5_single_121 ?_
                refine AW.iadd (pc' := 123) dX5_single_122 ?_
                refine AW.top (b := 6 - (d : Int)) (by push_cast; omega) ?_
                refine AW.invV1 (pc' := 126) dX5_single_123 mlX5_83 mX5_single ly_26 rfl (hS (s.1 + 1, s.2) n116) ?_
                try simp only [Int.toNat_natCast, LH_at, LH_fault, LH_6, LH_7, LH_row g s (by decide : (27 : Nat) ≠ 26)]
                have ke := (hKs _ n116)
                have ks1 := ke.1
                refine AW.if_ne (tgt := 133) (pc' := 129) dX5_single_126 (by first | assumption | omega | (constructor <;> omega) | (simp only [Int.toNat_natCast]; omega) | exact b2_in _) (fun c126 => ?_) (fun c126 => ?_)
                · refine AW.iconst (pc' := 134) dX5_single_133 ?_
                  refine AW.iret dX5_single_134 ?_ ?_
                  · refine congrArg (fun z : Int => (some (vI z) : Option AV)) ?_
                    unfold sgB
                    rw [if_neg nd, if_neg (by omega), if_neg (fun y => c76 y.2), if_pos ⟨rfl, c116⟩]
                    try first | (rw [b2_t (by omega)]; done) | (rw [b2_f (by omega)]; done)
                  · unfold sgB
                    rw [if_neg nd, if_neg (by omega), if_neg (fun y => c76 y.2), if_pos ⟨rfl, c116⟩]
                    try rfl
                · refine AW.iconst (pc' := 130) dX5_single_129 ?_
                  refine AW.goto (tgt := 134) dX5_single_130 ?_
                  refine AW.iret dX5_single_134 ?_ ?_
                  · refine congrArg (fun z : Int => (some (vI z) : Option AV)) ?_
                    unfold sgB
                    rw [if_neg nd, if_neg (by omega), if_neg (fun y => c76 y.2), if_pos ⟨rfl, c116⟩]
                    try first | (rw [b2_t (by omega)]; done) | (rw [b2_f (by omega)]; done)
                  · unfold sgB
                    rw [if_neg nd, if_neg (by omega), if_neg (fun y => c76 y.2), if_pos ⟨rfl, c116⟩]
                    try rfl
          · have p76 : psF (TX g) (g 26 7) 40 s = (s.1 + 1, s.2) := by unfold psF; rw [if_pos c76]
            rw [p76]
            have n76 := hs.next c76 (by decide)
            refine AW.aload_n (pc' := 80) dX5_single_79 rfl ?_
            refine AW.iload_n (pc' := 81) dX5_single_80 rfl ?_
            refine AW.iconst (pc' := 82) dX5_single_81 ?_
            refine AW.iadd (pc' := 83) dX5_single_82 ?_
            refine AW.top (b := 6 - (d : Int)) (by push_cast; omega) ?_
            refine AW.invV1 (pc' := 86) dX5_single_83 mlX5_56 mX5_either ly_26 rfl (hE (s.1 + 1, s.2) n76) ?_
            try simp only [Int.toNat_natCast, LH_at, LH_fault, LH_6, LH_7, LH_row g s (by decide : (27 : Nat) ≠ 26)]
            refine AW.istore4 (pc' := 88) dX5_single_86 (by decide) rfl ?_
            have ke := (hKe _ n76)
            have ks1 := ke.1
            have ks2 := ke.2
            refine AW.aload_n (pc' := 89) dX5_single_88 rfl ?_
            refine AW.bipush (pc' := 91) dX5_single_89 (by decide) ?_
            refine AW.invV1 (pc' := 94) dX5_single_91 mlX5_60 mX5_passes ly_26 rfl (c_X5_passes (dep := dep - 1) (by omega) hG ks2 (by decide) (by decide)) ?_
            try simp only [Int.toNat_natCast, LH_at, LH_fault, LH_6, LH_7, LH_row g s (by decide : (27 : Nat) ≠ 26)]
            refine AW.ifb_ne (tgt := 101) (pc' := 97) dX5_single_94 (fun c94 => ?_) (fun c94 => ?_)
            · refine AW.iload (pc' := 103) dX5_single_101 rfl ?_
              refine AW.iret dX5_single_103 ?_ ?_
              · refine congrArg (fun z : Int => (some (vI z) : Option AV)) ?_
                unfold sgB
                rw [if_neg nd, if_neg (by omega), if_pos ⟨rfl, c76⟩]
                try rfl
              · unfold sgB
                rw [if_neg nd, if_neg (by omega), if_pos ⟨rfl, c76⟩]
                try first | (rw [if_pos c94]; done) | (rw [if_neg c94]; done) | (unfold psF; rw [if_pos c94, if_pos c94]; done) | (unfold psF; rw [if_pos c94, if_pos c94]; rfl) | (unfold psF; simp only [if_pos c94]; done) | (unfold psF; rw [if_neg c94]; done)
            · have p94 : psF (TX g) (g 26 7) 41 (ei (s.1 + 1, s.2)).2 = (ei (s.1 + 1, s.2)).2 := by unfold psF; rw [if_neg c94]
              rw [p94]
              have ks3 := ks2
              refine AW.aload_n (pc' := 98) dX5_single_97 rfl ?_
              refine AW.invV0v (pc' := 101) dX5_single_98 mlX5_64 mX5_fail ly_26 rfl (c_X5_fail (dep := dep - 1) hG ks3) ?_
              try simp only [Int.toNat_natCast, LH_at, LH_fault, LH_6, LH_7, LH_row g s (by decide : (27 : Nat) ≠ 26)]
              refine AW.iload (pc' := 103) dX5_single_101 rfl ?_
              refine AW.iret dX5_single_103 ?_ ?_
              · refine congrArg (fun z : Int => (some (vI z) : Option AV)) ?_
                unfold sgB
                rw [if_neg nd, if_neg (by omega), if_pos ⟨rfl, c76⟩]
                try rfl
              · unfold sgB
                rw [if_neg nd, if_neg (by omega), if_pos ⟨rfl, c76⟩]
                try first | (rw [if_pos c94]; done) | (rw [if_neg c94]; done) | (unfold psF; rw [if_pos c94, if_pos c94]; done) | (unfold psF; rw [if_pos c94, if_pos c94]; rfl) | (unfold psF; simp only [if_pos c94]; done) | (unfold psF; rw [if_neg c94]; done)
      · have nl := nx_lt (T := TX g) (E := g 26 7) (s := s) rfl (nmI_no (by omega))
        refine AW.iload_n (pc' := 39) dX5_single_38 rfl ?_
        refine AW.aload_n (pc' := 40) dX5_single_39 rfl ?_
        refine AW.getR (pc' := 43) dX5_single_40 ly_26 fX5_9 rfl ?_
        refine AW.lenI (pc' := 44) dX5_single_43 ly_27 ?_
        refine AW.icmp_ge (tgt := 64) (pc' := 47) dX5_single_44 (by first | assumption | omega | (constructor <;> omega) | (simp only [Int.toNat_natCast]; omega) | exact b2_in _) (by first | assumption | omega | (constructor <;> omega) | (simp only [Int.toNat_natCast]; omega) | exact b2_in _) (fun c44 => ?_) (fun c44 => ?_)
        · refine AW.iload_n (pc' := 65) dX5_single_64 rfl ?_
          refine AW.bipush (pc' := 67) dX5_single_65 (by decide) ?_
          refine AW.icmp_ge (tgt := 104) (pc' := 70) dX5_single_67 (by first | assumption | omega | (constructor <;> omega) | (simp only [Int.toNat_natCast]; omega) | exact b2_in _) (by first | assumption | omega | (constructor <;> omega) | (simp only [Int.toNat_natCast]; omega) | exact b2_in _) (fun c67 => ?_) (fun c67 => ?_)
          · exfalso; push_cast at *; omega
          · refine AW.aload_n (pc' := 71) dX5_single_70 rfl ?_
            refine AW.bipush (pc' := 73) dX5_single_71 (by decide) ?_
            refine AW.invV1 (pc' := 76) dX5_single_73 mlX5_60 mX5_passes ly_26 rfl (c_X5_passes (dep := dep - 1) (by first | assumption | omega | (constructor <;> omega) | (simp only [Int.toNat_natCast]; omega) | exact b2_in _) (by first | assumption | omega | (constructor <;> omega) | (simp only [Int.toNat_natCast]; omega) | exact b2_in _) (by first | assumption | omega | (constructor <;> omega) | (simp only [Int.toNat_natCast]; omega) | exact b2_in _) (by first | assumption | omega | (constructor <;> omega) | (simp only [Int.toNat_natCast]; omega) | exact b2_in _) (by first | assumption | omega | (constructor <;> omega) | (simp only [Int.toNat_natCast]; omega) | exact b2_in _)) ?_
            try simp only [Int.toNat_natCast, LH_at, LH_fault, LH_6, LH_7, LH_row g s (by decide : (27 : Nat) ≠ 26)]
            refine AW.ifb_eq (tgt := 104) (pc' := 79) dX5_single_76 (fun c76 => ?_) (fun c76 => ?_)
            · have p76 : psF (TX g) (g 26 7) 40 s = s := by unfold psF; rw [if_neg c76]
              rw [p76]
              refine AW.iload_n (pc' := 105) dX5_single_104 rfl ?_
              refine AW.bipush (pc' := 107) dX5_single_105 (by decide) ?_
              refine AW.icmp_ge (tgt := 135) (pc' := 110) dX5_single_107 (by first | assumption | omega | (constructor <;> omega) | (simp only [Int.toNat_natCast]; omega) | exact b2_in _) (by first | assumption | omega | (constructor <;> omega) | (simp only [Int.toNat_natCast]; omega) | exact b2_in _) (fun c107 => ?_) (fun c107 => ?_)
              · exfalso; push_cast at *; omega
              · refine AW.aload_n (pc' := 111) dX5_single_110 rfl ?_
                refine AW.bipush (pc' := 113) dX5_single_111 (by decide) ?_
                refine AW.invV1 (pc' := 116) dX5_single_113 mlX5_60 mX5_passes ly_26 rfl (c_X5_passes (dep := dep - 1) (by first | assumption | omega | (constructor <;> omega) | (simp only [Int.toNat_natCast]; omega) | exact b2_in _) (by first | assumption | omega | (constructor <;> omega) | (simp only [Int.toNat_natCast]; omega) | exact b2_in _) (by first | assumption | omega | (constructor <;> omega) | (simp only [Int.toNat_natCast]; omega) | exact b2_in _) (by first | assumption | omega | (constructor <;> omega) | (simp only [Int.toNat_natCast]; omega) | exact b2_in _) (by first | assumption | omega | (constructor <;> omega) | (simp only [Int.toNat_natCast]; omega) | exact b2_in _)) ?_
                try simp only [Int.toNat_natCast, LH_at, LH_fault, LH_6, LH_7, LH_row g s (by decide : (27 : Nat) ≠ 26)]
                refine AW.ifb_eq (tgt := 135) (pc' := 119) dX5_single_116 (fun c116 => ?_) (fun c116 => ?_)
                · have p116 : psF (TX g) (g 26 7) 33 s = s := by unfold psF; rw [if_neg c116]
                  rw [p116]
                  refine AW.iload_n (pc' := 136) dX5_single_135 rfl ?_
                  refine AW.bipush (pc' := 138) dX5_single_136 (by decide) ?_
                  refine AW.icmp_ge (tgt := 159) (pc' := 141) dX5_single_138 (by first | assumption | omega | (constructor <;> omega) | (simp only [Int.toNat_natCast]; omega) | exact b2_in _) (by first | assumption | omega | (constructor <;> omega) | (simp only [Int.toNat_natCast]; omega) | exact b2_in _) (fun c138 => ?_) (fun c138 => ?_)
                  · exfalso; push_cast at *; omega
                  · refine AW.aload_n (pc' := 142) dX5_single_141 rfl ?_
                    refine AW.bipush (pc' := 144) dX5_single_142 (by decide) ?_
                    refine AW.invV1 (pc' := 147) dX5_single_144 mlX5_60 mX5_passes ly_26 rfl (c_X5_passes (dep := dep - 1) (by first | assumption | omega | (constructor <;> omega) | (simp only [Int.toNat_natCast]; omega) | exact b2_in _) (by first | assumption | omega | (constructor <;> omega) | (simp only [Int.toNat_natCast]; omega) | exact b2_in _) (by first | assumption | omega | (constructor <;> omega) | (simp only [Int.toNat_natCast]; omega) | exact b2_in _) (by first | assumption | omega | (constructor <;> omega) | (simp only [Int.toNat_natCast]; omega) | exact b2_in _) (by first | assumption | omega | (constructor <;> omega) | (simp only [Int.toNat_natCast]; omega) | exact b2_in _)) ?_
                    try simp only [Int.toNat_natCast, LH_at, LH_fault, LH_6, LH_7, LH_row g s (by decide : (27 : Nat) ≠ 26)]
                    refine AW.ifb_eq (tgt := 159) (pc' := 150) dX5_single_147 (fun c147 => ?_) (fun c147 => ?_)
                    · have p147 : psF (TX g) (g 26 7) 45 s = s := by unfold psF; rw [if_neg c147]
                      rw [p147]
                      refine AW.aload_n (pc' := 160) dX5_single_159 rfl ?_
                      refine AW.invV0v (pc' := 163) dX5_single_160 mlX5_64 mX5_fail ly_26 rfl (c_X5_fail (dep := dep - 1) (by first | assumption | omega | (constructor <;> omega) | (simp only [Int.toNat_natCast]; omega) | exact b2_in _) (by first | assumption | omega | (constructor <;> omega) | (simp only [Int.toNat_natCast]; omega) | exact b2_in _)) ?_
                      try simp only [Int.toNat_natCast, LH_at, LH_fault, LH_6, LH_7, LH_row g s (by decide : (27 : Nat) ≠ 26)]
                      refine AW.iconst (pc' := 164) dX5_single_163 ?_
                      refine AW.iret dX5_single_164 ?_ ?_
                      · refine congrArg (fun z : Int => (some (vI z) : Option AV)) ?_
                        unfold sgB
                        rw [if_neg nd, if_neg (by omega), if_neg (fun y => c76 y.2), if_neg (fun y => c116 y.2), if_neg (fun y => c147 y.2)]
                        try rfl
                      · unfold sgB
                        rw [if_neg nd, if_neg (by omega), if_neg (fun y => c76 y.2), if_neg (fun y => c116 y.2), if_neg (fun y => c147 y.2)]
                        try rfl
                    · have p147 : psF (TX g) (g 26 7) 45 s = (s.1 + 1, s.2) := by unfold psF; rw [if_pos c147]
                      rw [p147]
                      have n147 := hs.next c147 (by decide)
                      refine AW.aload_n (pc' := 151) dX5_single_150 rfl ?_
                      refine AW.iload_n (pc' := 152) dX5_single_151 rfl ?_
                      refine AW.iconst (pc' := 153) dX5_single_152 ?_
                      refine AW.iadd (pc' := 154) dX5_single_153 ?_
                      refine AW.top (b := 6 - (d : Int)) (by push_cast; omega) ?_
                      refine AW.invV1 (pc' := 157) dX5_single_154 mlX5_83 mX5_single ly_26 rfl (hS (s.1 + 1, s.2) n147) ?_
                      try simp only [Int.toNat_natCast, LH_at, LH_fault, LH_6, LH_7, LH_row g s (by decide : (27 : Nat) ≠ 26)]
                      have ke := (hKs _ n147)
                      have ks1 := ke.1
                      refine AW.ineg (pc' := 158) dX5_single_157 ?_
                      refine AW.cong (b := wr (-(sg (s.1 + 1, s.2)).1)) (wr_of _) ?_
                      have wi := wr_in (-(sg (s.1 + 1, s.2)).1)
                      refine AW.iret dX5_single_158 ?_ ?_
                      · refine congrArg (fun z : Int => (some (vI z) : Option AV)) ?_
                        unfold sgB
                        rw [if_neg nd, if_neg (by omega), if_neg (fun y => c76 y.2), if_neg (fun y => c116 y.2), if_pos ⟨rfl, c147⟩]
                        try rfl
                      · unfold sgB
                        rw [if_neg nd, if_neg (by omega), if_neg (fun y => c76 y.2), if_neg (fun y => c116 y.2), if_pos ⟨rfl, c147⟩]
                        try rfl
                · have p116 : psF (TX g) (g 26 7) 33 s = (s.1 + 1, s.2) := by unfold psF; rw [if_pos c116]
                  rw [p116]
                  have n116 := hs.next c116 (by decide)
                  refine AW.aload_n (pc' := 120) dX5_single_119 rfl ?_
                  refine AW.iload_n (pc' := 121) dX5_single_120 rfl ?_
                  refine AW.iconst (pc' := 122) dX5_single_121 ?_
                  refine AW.iadd (pc' := 123) dX5_single_122 ?_
                  refine AW.top (b := 6 - (d : Int)) (by push_cast; omega) ?_
                  refine AW.invV1 (pc' := 126) dX5_single_123 mlX5_83 mX5_single ly_26 rfl (hS (s.1 + 1, s.2) n116) ?_
                  try simp only [Int.toNat_natCast, LH_at, LH_fault, LH_6, LH_7, LH_row g s (by decide : (27 : Nat) ≠ 26)]
                  have ke := (hKs _ n116)
                  have ks1 := ke.1
                  refine AW.if_ne (tgt := 133) (pc' := 129) dX5_single_126 (by first | assumption | omega | (constructor <;> omega) | (simp only [Int.toNat_natCast]; omega) | exact b2_in _) (fun c126 => ?_) (fun c126 => ?_)
                  · refine AW.iconst (pc' := 134) dX5_single_133 ?_
                    refine AW.iret dX5_single_134 ?_ ?_
                    · refine congrArg (fun z : Int => (some (vI z) : Option AV)) ?_
                      unfold sgB
                      rw [if_neg nd, if_neg (by omega), if_neg (fun y => c76 y.2), if_pos ⟨rfl, c116⟩]
                      try first | (rw [b2_t (by omega)]; done) | (rw [b2_f (by omega)]; done)
                    · unfold sgB
                      rw [if_neg nd, if_neg (by omega), if_neg (fun y => c76 y.2), if_pos ⟨rfl, c116⟩]
                      try rfl
                  · refine AW.iconst (pc' := 130) dX5_single_129 ?_
                    refine AW.goto (tgt := 134) dX5_single_130 ?_
                    refine AW.iret dX5_single_134 ?_ ?_
                    · refine congrArg (fun z : Int => (some (vI z) : Option AV)) ?_
                      unfold sgB
                      rw [if_neg nd, if_neg (by omega), if_neg (fun y => c76 y.2), if_pos ⟨rfl, c116⟩]
                      try first | (rw [b2_t (by omega)]; done) | (rw [b2_f (by omega)]; done)
                    · unfold sgB
                      rw [if_neg nd, if_neg (by omega), if_neg (fun y => c76 y.2), if_pos ⟨rfl, c116⟩]
                      try rfl
            · have p76 : psF (TX g) (g 26 7) 40 s = (s.1 + 1, s.2) := by unfold psF; rw [if_pos c76]
              rw [p76]
              have n76 := hs.next c76 (by decide)
              refine AW.aload_n (pc' := 80) dX5_single_79 rfl ?_
              refine AW.iload_n (pc' := 81) dX5_single_80 rfl ?_
              refine AW.iconst (pc' := 82) dX5_single_81 ?_
              refine AW.iadd (pc' := 83) dX5_single_82 ?_
              refine AW.top (b := 6 - (d : Int)) (by push_cast; omega) ?_
              refine AW.invV1 (pc' := 86) dX5_single_83 mlX5_56 mX5_either ly_26 rfl (hE (s.1 + 1, s.2) n76) ?_
              try simp only [Int.toNat_natCast, LH_at, LH_fault, LH_6, LH_7, LH_row g s (by decide : (27 : Nat) ≠ 26)]
              refine AW.istore4 (pc' := 88) dX5_single_86 (by decide) rfl ?_
              have ke := (hKe _ n76)
              have ks1 := ke.1
              have ks2 := ke.2
              refine AW.aload_n (pc' := 89) dX5_single_88 rfl ?_
              refine AW.bipush (pc' := 91) dX5_single_89 (by decide) ?_
              refine AW.invV1 (pc' := 94) dX5_single_91 mlX5_60 mX5_passes ly_26 rfl (c_X5_passes (dep := dep - 1) (by omega) hG ks2 (by decide) (by decide)) ?_
              try simp only [Int.toNat_natCast, LH_at, LH_fault, LH_6, LH_7, LH_row g s (by decide : (27 : Nat) ≠ 26)]
              refine AW.ifb_ne (tgt := 101) (pc' := 97) dX5_single_94 (fun c94 => ?_) (fun c94 => ?_)
              · refine AW.iload (pc' := 103) dX5_single_101 rfl ?_
                refine AW.iret dX5_single_103 ?_ ?_
                · refine congrArg (fun z : Int => (some (vI z) : Option AV)) ?_
                  unfold sgB
                  rw [if_neg nd, if_neg (by omega), if_pos ⟨rfl, c76⟩]
                  try rfl
                · unfold sgB
                  rw [if_neg nd, if_neg (by omega), if_pos ⟨rfl, c76⟩]
                  try first | (rw [if_pos c94]; done) | (rw [if_neg c94]; done) | (unfold psF; rw [if_pos c94, if_pos c94]; done) | (unfold psF; rw [if_pos c94, if_pos c94]; rfl) | (unfold psF; simp only [if_pos c94]; done) | (unfold psF; rw [if_neg c94]; done)
              · have p94 : psF (TX g) (g 26 7) 41 (ei (s.1 + 1, s.2)).2 = (ei (s.1 + 1, s.2)).2 := by unfold psF; rw [if_neg c94]
                rw [p94]
                have ks3 := ks2
                refine AW.aload_n (pc' := 98) dX5_single_97 rfl ?_
                refine AW.invV0v (pc' := 101) dX5_single_98 mlX5_64 mX5_fail ly_26 rfl (c_X5_fail (dep := dep - 1) hG ks3) ?_
                try simp only [Int.toNat_natCast, LH_at, LH_fault, LH_6, LH_7, LH_row g s (by decide : (27 : Nat) ≠ 26)]
                refine AW.iload (pc' := 103) dX5_single_101 rfl ?_
                refine AW.iret dX5_single_103 ?_ ?_
                · refine congrArg (fun z : Int => (some (vI z) : Option AV)) ?_
                  unfold sgB
                  rw [if_neg nd, if_neg (by omega), if_pos ⟨rfl, c76⟩]
                  try rfl
                · unfold sgB
                  rw [if_neg nd, if_neg (by omega), if_pos ⟨rfl, c76⟩]
                  try first | (rw [if_pos c94]; done) | (rw [if_neg c94]; done) | (unfold psF; rw [if_pos c94, if_pos c94]; done) | (unfold psF; rw [if_pos c94, if_pos c94]; rfl) | (unfold psF; simp only [if_pos c94]; done) | (unfold psF; rw [if_neg c94]; done)
        · refine AW.aload_n (pc' := 48) dX5_single_47 rfl ?_
          refine AW.dup (pc' := 49) dX5_single_48 rfl ?_
          refine AW.getI (pc' := 52) dX5_single_49 ly_26 fX5_53 rfl (fun r49 => ?_)
          try simp only [LH_at, LH_fault, LH_6, LH_7, LH_row g s (by decide : (27 : Nat) ≠ 26)] at r49 ⊢
          try simp only [hset_app, Nat.reduceEqDiff, false_and, and_false, true_and, and_true, reduceIte] at r49 ⊢
          refine AW.iconst (pc' := 53) dX5_single_52 ?_
          refine AW.iadd (pc' := 54) dX5_single_53 ?_
          refine AW.putI (pc' := 57) dX5_single_54 ly_26 pX5_53 rfl (by first | assumption | omega | (constructor <;> omega) | (simp only [Int.toNat_natCast]; omega) | exact b2_in _) ?_
          simp only [LH_pat]
          refine AW.aload_n (pc' := 58) dX5_single_57 rfl ?_
          refine AW.getR (pc' := 61) dX5_single_58 ly_26 fX5_9 rfl ?_
          refine AW.iload_n (pc' := 62) dX5_single_61 rfl ?_
          first | refine AW.ialdN (pc' := 63) dX5_single_62 ly_27 (by first | assumption | omega | (constructor <;> omega) | (simp only [Int.toNat_natCast]; omega) | exact b2_in _) (by decide) (fun r62 => ?_) | refine AW.iald (pc' := 63) dX5_single_62 ly_27 (by first | assumption | omega | (constructor <;> omega) | (simp only [Int.toNat_natCast]; omega) | exact b2_in _) (by first | assumption | omega | (constructor <;> omega) | (simp only [Int.toNat_natCast]; omega) | exact b2_in _) (by decide) (fun r62 => ?_)
          try simp only [LH_at, LH_fault, LH_6, LH_7, LH_row g s (by decide : (27 : Nat) ≠ 26)] at r62 ⊢
          try simp only [hset_app, Nat.reduceEqDiff, false_and, and_false, true_and, and_true, reduceIte] at r62 ⊢
          refine AW.iret dX5_single_63 ?_ ?_
          · refine congrArg (fun z : Int => (some (vI z) : Option AV)) ?_
            unfold sgB
            rw [if_neg nd, if_pos (by omega)]
            try rfl
          · unfold sgB
            rw [if_neg nd, if_pos (by omega)]
            try rfl
  · refine AW.aload_n (pc' := 13) dX5_single_12 rfl ?_
    refine AW.invV0 (pc' := 16) dX5_single_13 mlX5_89 mX5_number ly_26 rfl (c_X5_number (dep := dep - 1) (by first | assumption | omega | (constructor <;> omega) | (simp only [Int.toNat_natCast]; omega) | exact b2_in _) (by first | assumption | omega | (constructor <;> omega) | (simp only [Int.toNat_natCast]; omega) | exact b2_in _) (by first | assumption | omega | (constructor <;> omega) | (simp only [Int.toNat_natCast]; omega) | exact b2_in _)) ?_
    try simp only [Int.toNat_natCast, LH_at, LH_fault, LH_6, LH_7, LH_row g s (by decide : (27 : Nat) ≠ 26)]
    refine AW.iret dX5_single_16 ?_ ?_
    · refine congrArg (fun z : Int => (some (vI z) : Option AV)) ?_
      unfold sgB
      rw [if_pos c9]
      try rfl
    · unfold sgB
      rw [if_pos c9]
      try rfl
/-- all the readers, by how many may still open -/
theorem rd_all {K : KT} {g : Hp} (hG : GI g) (hV : ∀ j, inI (g 27 j)) : ∀ d : Nat, d ≤ 6 → ∀ dep : Nat, 6 * d + 9 ≤ dep →
    PC K g yX5_single cX5_single 5 (dep - 5) (6 - (d : Int)) (sgF (TX g) (g 26 7) (g 27) d) ∧ PC K g yX5_either cX5_either 5 dep (6 - (d : Int)) (eiF (TX g) (g 26 7) (sgF (TX g) (g 26 7) (g 27) d)) := by
  have up : ∀ (d : Nat) (pf : PF), PK (g 26 7) pf → ∀ dep : Nat, 9 ≤ dep → (∀ dp, dep - 5 ≤ dp → PC K g yX5_single cX5_single 5 dp (6 - (d : Int)) pf) → PC K g yX5_either cX5_either 5 dep (6 - (d : Int)) (eiF (TX g) (g 26 7) pf) := by
    intro d pf hk dep hd h
    have p1 : PC K g yX5_product cX5_product 5 (dep - 4) (6 - (d : Int)) (pdF (TX g) (g 26 7) pf) := fun s hs => c_X5_product (by omega) hG hs (h (dep - 5) (by omega)) hk (by omega)
    have p2 : PC K g yX5_sum cX5_sum 4 (dep - 3) (6 - (d : Int)) (smF2 (TX g) (g 26 7) pf) := fun s hs => c_X5_sum (by omega) hG hs p1 (pdF_K hk) (by omega)
    have p3 : PC K g yX5_compared cX5_compared 3 (dep - 2) (6 - (d : Int)) (cpF (TX g) (g 26 7) pf) := fun s hs => c_X5_compared (by omega) hG hs p2 (smF2_K hk) (by omega)
    have p4 : PC K g yX5_both cX5_both 5 (dep - 1) (6 - (d : Int)) (anF (TX g) (g 26 7) pf) := fun s hs => c_X5_both (by omega) hG hs p3 (cpF_K hk) (by omega)
    exact fun s hs => c_X5_either (by omega) hG hs p4 (anF_K hk) (by omega)
  intro d
  induction d with
  | zero =>
    intro _ dep hd
    have s0 : ∀ dp, 4 ≤ dp → PC K g yX5_single cX5_single 5 dp (6 - ((0 : Nat) : Int)) (sgF (TX g) (g 26 7) (g 27) 0) := fun dp h s hs => c_X5_single0 h hG hs
    exact ⟨s0 _ (by omega), up 0 _ (sgF_K hV 0) dep (by omega) (fun dp h => s0 dp (by omega))⟩
  | succ d ih =>
    intro h6 dep hd
    have s1 : ∀ dp, dep - 5 ≤ dp → PC K g yX5_single cX5_single 5 dp (6 - ((d + 1 : Nat) : Int)) (sgF (TX g) (g 26 7) (g 27) (d + 1)) := fun dp h s hs => by
      obtain ⟨a, -⟩ := ih (by omega) (dp - 1 + 5) (by omega)
      obtain ⟨-, b⟩ := ih (by omega) (dp - 1) (by omega)
      rw [show dp - 1 + 5 - 5 = dp - 1 by omega] at a
      exact c_X5_singleS (by omega) hG hs b a (eiF_K (sgF_K hV d)) (sgF_K hV d) (by omega) (by omega)
    exact ⟨s1 _ (Nat.le_refl _), up (d + 1) _ (sgF_K hV (d + 1)) dep (by omega) s1⟩
