/-! laws: come, says; a runner of a race; the class -/
abbrev lwX (h : Hp) : St := (rdX (h 28) (h 26 4) (h 27)).2
def LCx (h x : Hp) : Prop := (4 ≤ h 26 5 ∧ x = h) ∨ (h 26 5 < 4 ∧ x 26 4 = 0 ∧ (((lwX h).2 ≠ -1 ∧ EX [26] h x ∧ x 26 5 = h 26 5) ∨ ((lwX h).2 = -1 ∧ EX [26, 34, 30 + (h 26 5).toNat] h x ∧ x 26 5 = h 26 5 + 1 ∧ (∀ j : Nat, x 34 j = upR (h 34) (h 26 5).toNat (h 26 4) j) ∧ ∀ j : Nat, x (30 + (h 26 5).toNat) j = if j < (h 26 4).toNat then h 28 j else h (30 + (h 26 5).toNat) j)))
theorem sgB_V {T : Nat → Int} {E : Int} {V V2 : Nat → Int} (hV : ∀ j : Nat, j < 9 → V j = V2 j) (r : Bool) (ei sg : PF) : sgB T E V r ei sg = sgB T E V2 r ei sg := by
  funext s
  unfold sgB
  by_cases h : 0 ≤ nmI (nx T E s)
  · rw [hV _ (by have := nmI_in (nx T E s); omega)]
  · rw [if_neg h, if_neg h]
theorem sgF_V {T : Nat → Int} {E : Int} {V V2 : Nat → Int} (hV : ∀ j : Nat, j < 9 → V j = V2 j) : ∀ d, sgF T E V d = sgF T E V2 d
  | 0 => sgB_V hV _ _ _
  | d + 1 => by
    unfold sgF
    rw [sgF_V hV d]
    exact sgB_V hV _ _ _
theorem rdX_V {T : Nat → Int} {E : Int} {V V2 : Nat → Int} (hV : ∀ j : Nat, j < 9 → V j = V2 j) : rdX T E V = rdX T E V2 := by
  unfold rdX
  rw [sgF_V hV 6]
theorem rdX_K {T : Nat → Int} {E : Int} {V : Nat → Int} (hE : 0 ≤ E) (hV : ∀ j, inI (V j)) : inI (rdX T E V).1 ∧ SI E (rdX T E V).2 := by
  have key : ∀ (n : Nat) (f v : Int) (s : St), inI v → SI E s → inI (rdL T E (eiF T E (sgF T E V 6)) n f v s).1 ∧ SI E (rdL T E (eiF T E (sgF T E V 6)) n f v s).2 := by
    have hb : PK E (eiF T E (sgF T E V 6)) := eiF_K (sgF_K hV 6)
    intro n
    induction n with
    | zero => intro f v s hv hs; exact ⟨hv, hs⟩
    | succ n ih =>
      intro f v s hv hs
      obtain ⟨q, hq⟩ : ∃ q, q = if nx T E (eiF T E (sgF T E V 6) s).2 = 63 then eiF T E (sgF T E V 6) ((eiF T E (sgF T E V 6) s).2.1 + 1, (eiF T E (sgF T E V 6) s).2.2) else eiF T E (sgF T E V 6) s := ⟨_, rfl⟩
      have kq : inI q.1 ∧ SI E q.2 := by
        rw [hq]
        split
        · rename_i z
          exact hb _ ((hb s hs).2.next z (by decide))
        · exact hb s hs
      rw [rdL_step q _ _ hq rfl rfl]
      split
      · rename_i z
        refine ih _ _ _ ?_ (kq.2.next z (by decide))
        split
        · exact kq.1
        · exact hv
      · refine ⟨?_, kq.2⟩
        show inI (if _ then _ else _)
        split
        · exact kq.1
        · exact hv
  have q := key 121 0 0 (0, -1) inI_0 ⟨by decide, hE, by decide, by show (-1 : Int) ≤ _; omega⟩
  refine ⟨q.1, ?_⟩
  show SI E (enF E _)
  unfold enF
  split
  · exact q.2.fail
  · exact q.2
set_option maxRecDepth 100000 in
set_option maxHeartbeats 4000000 in
theorem c_X5_come {K : KT} {dep : Nat} {h : Hp}  (hd : 51 ≤ dep) (q0 : 0 ≤ h 26 4 ∧ h 26 4 ≤ 120) (q1 : 0 ≤ h 26 5 ∧ h 26 5 ≤ 4) : AMp K yX5_come cX5_come 2 (some .int) dep [vR 26] h (some (vI (if 4 ≤ h 26 5 then -3 else if (lwX h).2 ≠ -1 then -100 - (lwX h).2 else h 26 5))) (fun x => LCx h x) := by
  refine AM.of (own := RX5) (ls := [some (vR 26), none]) rfl (by decide +kernel) (by exact Nat.le_of_ble_eq_true rfl) rfl (fun hO => ?_)
  have hV : ∀ j, inI (h 27 j) := fun j => hO.ints ly_27 j
  have rk := (rdX_K (T := h 28) (E := h 26 4) (V := h 27) q0.1 hV).2
  obtain ⟨k1, k2, k3, k4⟩ := rk
  refine AW.aload_n (pc' := 1) dX5_come_0 rfl ?_
  refine AW.getI (pc' := 4) dX5_come_1 ly_26 fX5_34 rfl (fun r1 => ?_)
  try simp only [f9, f5, f5b, Int.reduceToNat] at r1 ⊢
  refine AW.iconst (pc' := 5) dX5_come_4 ?_
  refine AW.icmp_lt (tgt := 11) (pc' := 8) dX5_come_5 (by first | assumption | omega | (constructor <;> omega) | (simp only [Int.toNat_natCast]; omega) | exact b2_in _) (by first | assumption | omega | (constructor <;> omega) | (simp only [Int.toNat_natCast]; omega) | exact b2_in _) (fun c5 => ?_) (fun c5 => ?_)
  · refine AW.aload_n (pc' := 12) dX5_come_11 rfl ?_
    refine AW.getI (pc' := 15) dX5_come_12 ly_26 fX5_30 rfl (fun r12 => ?_)
    try simp only [f9, f5, f5b, Int.reduceToNat] at r12 ⊢
    refine AW.istore1n (pc' := 16) dX5_come_15 (by decide) rfl ?_
    refine AW.aload_n (pc' := 17) dX5_come_16 rfl ?_
    refine AW.iconst (pc' := 18) dX5_come_17 ?_
    refine AW.putI (pc' := 21) dX5_come_18 ly_26 pX5_30 rfl (by first | assumption | omega | (constructor <;> omega) | (simp only [Int.toNat_natCast]; omega) | exact b2_in _) ?_
    refine AW.aload_n (pc' := 22) dX5_come_21 rfl ?_
    refine AW.aload_n (pc' := 23) dX5_come_22 rfl ?_
    refine AW.getR (pc' := 26) dX5_come_23 ly_26 fX5_15 rfl ?_
    refine AW.iload_n (pc' := 27) dX5_come_26 rfl ?_
    refine AW.invV2 (pc' := 30) dX5_come_27 mlX5_37 mX5_read ly_26 rfl (c_X5_read28 (dep := dep - 1) (a := h 26 4) (by omega) q0) ?_
    try simp only [Int.toNat_natCast, f9, f5, f5b, Int.reduceToNat]
    obtain ⟨h3, gh3⟩ : ∃ z, z = LH (hset (hset (hset h 26 4 0) 26 6 ((28 : Nat) : Int)) 26 7 (h 26 4)) (rdX (hset h 26 4 0 28) (h 26 4) (hset h 26 4 0 27)).2 := ⟨_, rfl⟩
    rw [← gh3]
    have f9 : h3 26 9 = (lwX h).2 := by rw [gh3, LH_fault]; rfl
    have f5 : h3 26 5 = h 26 5 := by rw [gh3, LH_slot _ _ (by decide) (by decide)]; rfl
    have f5b := f5
    have f4 : h3 26 4 = 0 := by rw [gh3, LH_slot _ _ (by decide) (by decide)]; rfl
    have e3 : EX [26] h h3 := fun k hk => by
      have kn : k ≠ 26 := by intro e; subst e; simp at hk
      rw [gh3, LH_row _ _ kn, hset_other k kn, hset_other k kn, hset_other k kn]
    refine AW.pop (pc' := 31) dX5_come_30 rfl ?_
    refine AW.aload_n (pc' := 32) dX5_come_31 rfl ?_
    refine AW.getI (pc' := 35) dX5_come_32 ly_26 fX5_41 rfl (fun r32 => ?_)
    try simp only [f9, f5, f5b, Int.reduceToNat] at r32 ⊢
    try simp only [hset_app, Nat.reduceEqDiff, false_and, and_false, true_and, and_true, reduceIte] at r32 ⊢
    refine AW.iconst (pc' := 36) dX5_come_35 ?_
    refine AW.icmp_eq (tgt := 47) (pc' := 39) dX5_come_36 (by first | assumption | omega | (constructor <;> omega) | (simp only [Int.toNat_natCast]; omega) | exact b2_in _) (by first | assumption | omega | (constructor <;> omega) | (simp only [Int.toNat_natCast]; omega) | exact b2_in _) (fun c36 => ?_) (fun c36 => ?_)
    · refine AW.aload_n (pc' := 48) dX5_come_47 rfl ?_
      refine AW.getR (pc' := 51) dX5_come_48 ly_26 fX5_15 rfl ?_
      refine AW.iconst (pc' := 52) dX5_come_51 ?_
      refine AW.aload_n (pc' := 53) dX5_come_52 rfl ?_
      refine AW.getR (pc' := 56) dX5_come_53 ly_26 fX5_21 rfl ?_
      refine AW.aload_n (pc' := 57) dX5_come_56 rfl ?_
      refine AW.getI (pc' := 60) dX5_come_57 ly_26 fX5_34 rfl (fun r57 => ?_)
      try simp only [f9, f5, f5b, Int.reduceToNat] at r57 ⊢
      try simp only [hset_app, Nat.reduceEqDiff, false_and, and_false, true_and, and_true, reduceIte] at r57 ⊢
      by_cases v60_0 : h 26 5 = 0
      · refine AW.top v60_0 ?_
        refine AW.aaldB (t := 30) (pc' := 61) dX5_come_60 ly_29 (by decide) (by decide) (by decide) rfl ?_
        refine AW.iconst (pc' := 62) dX5_come_61 ?_
        refine AW.iload_n (pc' := 63) dX5_come_62 rfl ?_
        refine AW.copyB (pc' := 66) dX5_come_63 mlX5_44 ly_28 ly_30 (by first | assumption | omega | (constructor <;> omega) | (simp only [Int.toNat_natCast]; omega) | exact b2_in _) (by first | assumption | omega | (constructor <;> omega) | (simp only [Int.toNat_natCast]; omega) | exact b2_in _) (by first | assumption | omega | (constructor <;> omega) | (simp only [Int.toNat_natCast]; omega) | exact b2_in _) (by first | assumption | omega | (constructor <;> omega) | (simp only [Int.toNat_natCast]; omega) | exact b2_in _) (by first | assumption | omega | (constructor <;> omega) | (simp only [Int.toNat_natCast]; omega) | exact b2_in _) (by decide) (by decide) ?_
        generalize gh4 : hcpy h3 28 (30 + 0) _ _ _ = h4
        have eN : 30 + (h 26 5).toNat = 30 + 0 := by rw [v60_0]; rfl
        have sz : h 26 5 < 4 := by omega
        have f5b : h4 26 5 = h 26 5 := by rw [← gh4, hcpy_other 26 (by decide)]; exact f5
        have f4b : h4 26 4 = 0 := by rw [← gh4, hcpy_other 26 (by decide)]; exact f4
        have e4 : EX [26, 34, 30 + (h 26 5).toNat] h h4 := fun k hk => by
          have kn : k ≠ 26 ∧ k ≠ 34 ∧ k ≠ 30 + (h 26 5).toNat := by simp at hk; omega
          rw [← gh4, hcpy_other k (by rw [← eN]; exact kn.2.2)]
          exact e3 k (by simp; omega)
        have e34 : h4 34 = h 34 := by rw [← gh4, hcpy_other 34 (by decide)]; exact e3 34 rfl
        have rw4 : ∀ j : Nat, h4 (30 + (h 26 5).toNat) j = if j < (h 26 4).toNat then h 28 j else h (30 + (h 26 5).toNat) j := by
          intro j
          rw [eN, ← gh4, hcpy_app]
          by_cases z : j < (h 26 4).toNat
          · rw [if_pos ⟨rfl, Nat.zero_le _, by omega⟩, if_pos z]
            show h3 28 (0 + (j - 0)) = h 28 j
            rw [Nat.zero_add, Nat.sub_zero, e3 28 rfl]
          · rw [if_neg (by omega), if_neg z, e3 _ rfl]
        refine AW.aload_n (pc' := 67) dX5_come_66 rfl ?_
        refine AW.getR (pc' := 70) dX5_come_67 ly_26 fX5_24 rfl ?_
        refine AW.aload_n (pc' := 71) dX5_come_70 rfl ?_
        refine AW.getI (pc' := 74) dX5_come_71 ly_26 fX5_34 rfl (fun r71 => ?_)
        try simp only [f9, f5, f5b, Int.reduceToNat] at r71 ⊢
        try simp only [hset_app, Nat.reduceEqDiff, false_and, and_false, true_and, and_true, reduceIte] at r71 ⊢
        refine AW.iload_n (pc' := 75) dX5_come_74 rfl ?_
        first | refine AW.iastN (pc' := 76) dX5_come_75 ly_34 (by first | assumption | omega | (constructor <;> omega) | (simp only [Int.toNat_natCast]; omega) | exact b2_in _) (by decide) (by first | assumption | omega | (constructor <;> omega) | (simp only [Int.toNat_natCast]; omega) | exact b2_in _) ?_ | refine AW.iast (pc' := 76) dX5_come_75 ly_34 (by first | assumption | omega | (constructor <;> omega) | (simp only [Int.toNat_natCast]; omega) | exact b2_in _) (by first | assumption | omega | (constructor <;> omega) | (simp only [Int.toNat_natCast]; omega) | exact b2_in _) (by decide) (by first | assumption | omega | (constructor <;> omega) | (simp only [Int.toNat_natCast]; omega) | exact b2_in _) ?_
        refine AW.aload_n (pc' := 77) dX5_come_76 rfl ?_
        refine AW.dup (pc' := 78) dX5_come_77 rfl ?_
        refine AW.getI (pc' := 81) dX5_come_78 ly_26 fX5_34 rfl (fun r78 => ?_)
        try simp only [f9, f5, f5b, Int.reduceToNat] at r78 ⊢
        try simp only [hset_app, Nat.reduceEqDiff, false_and, and_false, true_and, and_true, reduceIte] at r78 ⊢
        refine AW.dup_x1 (pc' := 82) dX5_come_81 rfl rfl ?_
        refine AW.iconst (pc' := 83) dX5_come_82 ?_
        refine AW.iadd (pc' := 84) dX5_come_83 ?_
        refine AW.putI (pc' := 87) dX5_come_84 ly_26 pX5_34 rfl (by first | assumption | omega | (constructor <;> omega) | (simp only [Int.toNat_natCast]; omega) | exact b2_in _) ?_
        refine AW.iret dX5_come_87 ?_ ?_
        · refine congrArg (fun z : Int => (some (vI z) : Option AV)) ?_
          rw [if_neg (by omega), if_neg (by omega)]
          try omega
        · refine Or.inr ⟨by omega, by simp [hset_app, f4b], Or.inr ⟨by omega, (e4.st (by simp)).st (by simp), by simp [hset_app, f5b], fun j => ?_, fun j => ?_⟩⟩
          · simp only [hset_app, Nat.reduceEqDiff, false_and, true_and, reduceIte, upR, e34]
            try rfl
          · rw [hset_other _ (by omega), hset_other _ (by omega)]
            exact rw4 j
      by_cases v60_1 : h 26 5 = 1
      · refine AW.top v60_1 ?_
        refine AW.aaldB (t := 31) (pc' := 61) dX5_come_60 ly_29 (by decide) (by decide) (by decide) rfl ?_
        refine AW.iconst (pc' := 62) dX5_come_61 ?_
        refine AW.iload_n (pc' := 63) dX5_come_62 rfl ?_
        refine AW.copyB (pc' := 66) dX5_come_63 mlX5_44 ly_28 ly_31 (by first | assumption | omega | (constructor <;> omega) | (simp only [Int.toNat_natCast]; omega) | exact b2_in _) (by first | assumption | omega | (constructor <;> omega) | (simp only [Int.toNat_natCast]; omega) | exact b2_in _) (by first | assumption | omega | (constructor <;> omega) | (simp only [Int.toNat_natCast]; omega) | exact b2_in _) (by first | assumption | omega | (constructor <;> omega) | (simp only [Int.toNat_natCast]; omega) | exact b2_in _) (by first | assumption | omega | (constructor <;> omega) | (simp only [Int.toNat_natCast]; omega) | exact b2_in _) (by decide) (by decide) ?_
        generalize gh4 : hcpy h3 28 (30 + 1) _ _ _ = h4
        have eN : 30 + (h 26 5).toNat = 30 + 1 := by rw [v60_1]; rfl
        have sz : h 26 5 < 4 := by omega
        have f5b : h4 26 5 = h 26 5 := by rw [← gh4, hcpy_other 26 (by decide)]; exact f5
        have f4b : h4 26 4 = 0 := by rw [← gh4, hcpy_other 26 (by decide)]; exact f4
        have e4 : EX [26, 34, 30 + (h 26 5).toNat] h h4 := fun k hk => by
          have kn : k ≠ 26 ∧ k ≠ 34 ∧ k ≠ 30 + (h 26 5).toNat := by simp at hk; omega
          rw [← gh4, hcpy_other k (by rw [← eN]; exact kn.2.2)]
          exact e3 k (by simp; omega)
        have e34 : h4 34 = h 34 := by rw [← gh4, hcpy_other 34 (by decide)]; exact e3 34 rfl
        have rw4 : ∀ j : Nat, h4 (30 + (h 26 5).toNat) j = if j < (h 26 4).toNat then h 28 j else h (30 + (h 26 5).toNat) j := by
          intro j
          rw [eN, ← gh4, hcpy_app]
          by_cases z : j < (h 26 4).toNat
          · rw [if_pos ⟨rfl, Nat.zero_le _, by omega⟩, if_pos z]
            show h3 28 (0 + (j - 0)) = h 28 j
            rw [Nat.zero_add, Nat.sub_zero, e3 28 rfl]
          · rw [if_neg (by omega), if_neg z, e3 _ rfl]
        refine AW.aload_n (pc' := 67) dX5_come_66 rfl ?_
        refine AW.getR (pc' := 70) dX5_come_67 ly_26 fX5_24 rfl ?_
        refine AW.aload_n (pc' := 71) dX5_come_70 rfl ?_
        refine AW.getI (pc' := 74) dX5_come_71 ly_26 fX5_34 rfl (fun r71 => ?_)
        try simp only [f9, f5, f5b, Int.reduceToNat] at r71 ⊢
        try simp only [hset_app, Nat.reduceEqDiff, false_and, and_false, true_and, and_true, reduceIte] at r71 ⊢
        refine AW.iload_n (pc' := 75) dX5_come_74 rfl ?_
        first | refine AW.iastN (pc' := 76) dX5_come_75 ly_34 (by first | assumption | omega | (constructor <;> omega) | (simp only [Int.toNat_natCast]; omega) | exact b2_in _) (by decide) (by first | assumption | omega | (constructor <;> omega) | (simp only [Int.toNat_natCast]; omega) | exact b2_in _) ?_ | refine AW.iast (pc' := 76) dX5_come_75 ly_34 (by first | assumption | omega | (constructor <;> omega) | (simp only [Int.toNat_natCast]; omega) | exact b2_in _) (by first | assumption | omega | (constructor <;> omega) | (simp only [Int.toNat_natCast]; omega) | exact b2_in _) (by decide) (by first | assumption | omega | (constructor <;> omega) | (simp only [Int.toNat_natCast]; omega) | exact b2_in _) ?_
        refine AW.aload_n (pc' := 77) dX5_come_76 rfl ?_
        refine AW.dup (pc' := 78) dX5_come_77 rfl ?_
        refine AW.getI (pc' := 81) dX5_come_78 ly_26 fX5_34 rfl (fun r78 => ?_)
        try simp only [f9, f5, f5b, Int.reduceToNat] at r78 ⊢
        try simp only [hset_app, Nat.reduceEqDiff, false_and, and_false, true_and, and_true, reduceIte] at r78 ⊢
        refine AW.dup_x1 (pc' := 82) dX5_come_81 rfl rfl ?_
        refine AW.iconst (pc' := 83) dX5_come_82 ?_
        refine AW.iadd (pc' := 84) dX5_come_83 ?_
        refine AW.putI (pc' := 87) dX5_come_84 ly_26 pX5_34 rfl (by first | assumption | omega | (constructor <;> omega) | (simp only [Int.toNat_natCast]; omega) | exact b2_in _) ?_
        refine AW.iret dX5_come_87 ?_ ?_
        · refine congrArg (fun z : Int => (some (vI z) : Option AV)) ?_
          rw [if_neg (by omega), if_neg (by omega)]
          try omega
        · refine Or.inr ⟨by omega, by simp [hset_app, f4b], Or.inr ⟨by omega, (e4.st (by simp)).st (by simp), by simp [hset_app, f5b], fun j => ?_, fun j => ?_⟩⟩
          · simp only [hset_app, Nat.reduceEqDiff, false_and, true_and, reduceIte, upR, e34]
            try rfl
          · rw [hset_other _ (by omega), hset_other _ (by omega)]
            exact rw4 j
      by_cases v60_2 : h 26 5 = 2
      · refine AW.top v60_2 ?_
        refine AW.aaldB (t := 32) (pc' := 61) dX5_come_60 ly_29 (by decide) (by decide) (by decide) rfl ?_
        refine AW.iconst (pc' := 62) dX5_come_61 ?_
        refine AW.iload_n (pc' := 63) dX5_come_62 rfl ?_
        refine AW.copyB (pc' := 66) dX5_come_63 mlX5_44 ly_28 ly_32 (by first | assumption | omega | (constructor <;> omega) | (simp only [Int.toNat_natCast]; omega) | exact b2_in _) (by first | assumption | omega | (constructor <;> omega) | (simp only [Int.toNat_natCast]; omega) | exact b2_in _) (by first | assumption | omega | (constructor <;> omega) | (simp only [Int.toNat_natCast]; omega) | exact b2_in _) (by first | assumption | omega | (constructor <;> omega) | (simp only [Int.toNat_natCast]; omega) | exact b2_in _) (by first | assumption | omega | (constructor <;> omega) | (simp only [Int.toNat_natCast]; omega) | exact b2_in _) (by decide) (by decide) ?_
        generalize gh4 : hcpy h3 28 (30 + 2) _ _ _ = h4
        have eN : 30 + (h 26 5).toNat = 30 + 2 := by rw [v60_2]; rfl
        have sz : h 26 5 < 4 := by omega
        have f5b : h4 26 5 = h 26 5 := by rw [← gh4, hcpy_other 26 (by decide)]; exact f5
        have f4b : h4 26 4 = 0 := by rw [← gh4, hcpy_other 26 (by decide)]; exact f4
        have e4 : EX [26, 34, 30 + (h 26 5).toNat] h h4 := fun k hk => by
          have kn : k ≠ 26 ∧ k ≠ 34 ∧ k ≠ 30 + (h 26 5).toNat := by simp at hk; omega
          rw [← gh4, hcpy_other k (by rw [← eN]; exact kn.2.2)]
          exact e3 k (by simp; omega)
        have e34 : h4 34 = h 34 := by rw [← gh4, hcpy_other 34 (by decide)]; exact e3 34 rfl
        have rw4 : ∀ j : Nat, h4 (30 + (h 26 5).toNat) j = if j < (h 26 4).toNat then h 28 j else h (30 + (h 26 5).toNat) j := by
          intro j
          rw [eN, ← gh4, hcpy_app]
          by_cases z : j < (h 26 4).toNat
          · rw [if_pos ⟨rfl, Nat.zero_le _, by omega⟩, if_pos z]
            show h3 28 (0 + (j - 0)) = h 28 j
            rw [Nat.zero_add, Nat.sub_zero, e3 28 rfl]
          · rw [if_neg (by omega), if_neg z, e3 _ rfl]
        refine AW.aload_n (pc' := 67) dX5_come_66 rfl ?_
        refine AW.getR (pc' := 70) dX5_come_67 ly_26 fX5_24 rfl ?_
        refine AW.aload_n (pc' := 71) dX5_come_70 rfl ?_
        refine AW.getI (pc' := 74) dX5_come_71 ly_26 fX5_34 rfl (fun r71 => ?_)
        try simp only [f9, f5, f5b, Int.reduceToNat] at r71 ⊢
        try simp only [hset_app, Nat.reduceEqDiff, false_and, and_false, true_and, and_true, reduceIte] at r71 ⊢
        refine AW.iload_n (pc' := 75) dX5_come_74 rfl ?_
        first | refine AW.iastN (pc' := 76) dX5_come_75 ly_34 (by first | assumption | omega | (constructor <;> omega) | (simp only [Int.toNat_natCast]; omega) | exact b2_in _) (by decide) (by first | assumption | omega | (constructor <;> omega) | (simp only [Int.toNat_natCast]; omega) | exact b2_in _) ?_ | refine AW.iast (pc' := 76) dX5_come_75 ly_34 (by first | assumption | omega | (constructor <;> omega) | (simp only [Int.toNat_natCast]; omega) | exact b2_in _) (by first | assumption | omega | (constructor <;> omega) | (simp only [Int.toNat_natCast]; omega) | exact b2_in _) (by decide) (by first | assumption | omega | (constructor <;> omega) | (simp only [Int.toNat_natCast]; omega) | exact b2_in _) ?_
        refine AW.aload_n (pc' := 77) dX5_come_76 rfl ?_
        refine AW.dup (pc' := 78) dX5_come_77 rfl ?_
        refine AW.getI (pc' := 81) dX5_come_78 ly_26 fX5_34 rfl (fun r78 => ?_)
        try simp only [f9, f5, f5b, Int.reduceToNat] at r78 ⊢
        try simp only [hset_app, Nat.reduceEqDiff, false_and, and_false, true_and, and_true, reduceIte] at r78 ⊢
        refine AW.dup_x1 (pc' := 82) dX5_come_81 rfl rfl ?_
        refine AW.iconst (pc' := 83) dX5_come_82 ?_
        refine AW.iadd (pc' := 84) dX5_come_83 ?_
        refine AW.putI (pc' := 87) dX5_come_84 ly_26 pX5_34 rfl (by first | assumption | omega | (constructor <;> omega) | (simp only [Int.toNat_natCast]; omega) | exact b2_in _) ?_
        refine AW.iret dX5_come_87 ?_ ?_
        · refine congrArg (fun z : Int => (some (vI z) : Option AV)) ?_
          rw [if_neg (by omega), if_neg (by omega)]
          try omega
        · refine Or.inr ⟨by omega, by simp [hset_app, f4b], Or.inr ⟨by omega, (e4.st (by simp)).st (by simp), by simp [hset_app, f5b], fun j => ?_, fun j => ?_⟩⟩
          · simp only [hset_app, Nat.reduceEqDiff, false_and, true_and, reduceIte, upR, e34]
            try rfl
          · rw [hset_other _ (by omega), hset_other _ (by omega)]
            exact rw4 j
      by_cases v60_3 : h 26 5 = 3
      · refine AW.top v60_3 ?_
        refine AW.aaldB (t := 33) (pc' := 61) dX5_come_60 ly_29 (by decide) (by decide) (by decide) rfl ?_
        refine AW.iconst (pc' := 62) dX5_come_61 ?_
        refine AW.iload_n (pc' := 63) dX5_come_62 rfl ?_
        refine AW.copyB (pc' := 66) dX5_come_63 mlX5_44 ly_28 ly_33 (by first | assumption | omega | (constructor <;> omega) | (simp only [Int.toNat_natCast]; omega) | exact b2_in _) (by first | assumption | omega | (constructor <;> omega) | (simp only [Int.toNat_natCast]; omega) | exact b2_in _) (by first | assumption | omega | (constructor <;> omega) | (simp only [Int.toNat_natCast]; omega) | exact b2_in _) (by first | assumption | omega | (constructor <;> omega) | (simp only [Int.toNat_natCast]; omega) | exact b2_in _) (by first | assumption | omega | (constructor <;> omega) | (simp only [Int.toNat_natCast]; omega) | exact b2_in _) (by decide) (by decide) ?_
        generalize gh4 : hcpy h3 28 (30 + 3) _ _ _ = h4
        have eN : 30 + (h 26 5).toNat = 30 + 3 := by rw [v60_3]; rfl
        have sz : h 26 5 < 4 := by omega
        have f5b : h4 26 5 = h 26 5 := by rw [← gh4, hcpy_other 26 (by decide)]; exact f5
        have f4b : h4 26 4 = 0 := by rw [← gh4, hcpy_other 26 (by decide)]; exact f4
        have e4 : EX [26, 34, 30 + (h 26 5).toNat] h h4 := fun k hk => by
          have kn : k ≠ 26 ∧ k ≠ 34 ∧ k ≠ 30 + (h 26 5).toNat := by simp at hk; omega
          rw [← gh4, hcpy_other k (by rw [← eN]; exact kn.2.2)]
          exact e3 k (by simp; omega)
        have e34 : h4 34 = h 34 := by rw [← gh4, hcpy_other 34 (by decide)]; exact e3 34 rfl
        have rw4 : ∀ j : Nat, h4 (30 + (h 26 5).toNat) j = if j < (h 26 4).toNat then h 28 j else h (30 + (h 26 5).toNat) j := by
          intro j
          rw [eN, ← gh4, hcpy_app]
          by_cases z : j < (h 26 4).toNat
          · rw [if_pos ⟨rfl, Nat.zero_le _, by omega⟩, if_pos z]
            show h3 28 (0 + (j - 0)) = h 28 j
            rw [Nat.zero_add, Nat.sub_zero, e3 28 rfl]
          · rw [if_neg (by omega), if_neg z, e3 _ rfl]
        refine AW.aload_n (pc' := 67) dX5_come_66 rfl ?_
        refine AW.getR (pc' := 70) dX5_come_67 ly_26 fX5_24 rfl ?_
        refine AW.aload_n (pc' := 71) dX5_come_70 rfl ?_
        refine AW.getI (pc' := 74) dX5_come_71 ly_26 fX5_34 rfl (fun r71 => ?_)
        try simp only [f9, f5, f5b, Int.reduceToNat] at r71 ⊢
        try simp only [hset_app, Nat.reduceEqDiff, false_and, and_false, true_and, and_true, reduceIte] at r71 ⊢
        refine AW.iload_n (pc' := 75) dX5_come_74 rfl ?_
        first | refine AW.iastN (pc' := 76) dX5_come_75 ly_34 (by first | assumption | omega | (constructor <;> omega) | (simp only [Int.toNat_natCast]; omega) | exact b2_in _) (by decide) (by first | assumption | omega | (constructor <;> omega) | (simp only [Int.toNat_natCast]; omega) | exact b2_in _) ?_ | refine AW.iast (pc' := 76) dX5_come_75 ly_34 (by first | assumption | omega | (constructor <;> omega) | (simp only [Int.toNat_natCast]; omega) | exact b2_in _) (by first | assumption | omega | (constructor <;> omega) | (simp only [Int.toNat_natCast]; omega) | exact b2_in _) (by decide) (by first | assumption | omega | (constructor <;> omega) | (simp only [Int.toNat_natCast]; omega) | exact b2_in _) ?_
        refine AW.aload_n (pc' := 77) dX5_come_76 rfl ?_
        refine AW.dup (pc' := 78) dX5_come_77 rfl ?_
        refine AW.getI (pc' := 81) dX5_come_78 ly_26 fX5_34 rfl (fun r78 => ?_)
        try simp only [f9, f5, f5b, Int.reduceToNat] at r78 ⊢
        try simp only [hset_app, Nat.reduceEqDiff, false_and, and_false, true_and, and_true, reduceIte] at r78 ⊢
        refine AW.dup_x1 (pc' := 82) dX5_come_81 rfl rfl ?_
        refine AW.iconst (pc' := 83) dX5_come_82 ?_
        refine AW.iadd (pc' := 84) dX5_come_83 ?_
        refine AW.putI (pc' := 87) dX5_come_84 ly_26 pX5_34 rfl (by first | assumption | omega | (constructor <;> omega) | (simp only [Int.toNat_natCast]; omega) | exact b2_in _) ?_
        refine AW.iret dX5_come_87 ?_ ?_
        · refine congrArg (fun z : Int => (some (vI z) : Option AV)) ?_
          rw [if_neg (by omega), if_neg (by omega)]
          try omega
        · refine Or.inr ⟨by omega, by simp [hset_app, f4b], Or.inr ⟨by omega, (e4.st (by simp)).st (by simp), by simp [hset_app, f5b], fun j => ?_, fun j => ?_⟩⟩
          · simp only [hset_app, Nat.reduceEqDiff, false_and, true_and, reduceIte, upR, e34]
            try rfl
          · rw [hset_other _ (by omega), hset_other _ (by omega)]
            exact rw4 j
      exfalso
      omega
    · refine AW.bipush (pc' := 41) dX5_come_39 (by decide) ?_
      refine AW.aload_n (pc' := 42) dX5_come_41 rfl ?_
      refine AW.getI (pc' := 45) dX5_come_42 ly_26 fX5_41 rfl (fun r42 => ?_)
      try simp only [f9, f5, f5b, Int.reduceToNat] at r42 ⊢
      try simp only [hset_app, Nat.reduceEqDiff, false_and, and_false, true_and, and_true, reduceIte] at r42 ⊢
      refine AW.isub (pc' := 46) dX5_come_45 ?_
      refine AW.iret dX5_come_46 ?_ ?_
      · refine congrArg (fun z : Int => (some (vI z) : Option AV)) ?_
        first | (rw [if_pos (by omega)]; done) | (rw [if_neg (by omega), if_pos (by omega)]; done) | (rw [if_neg (by omega), if_neg (by omega)]; try omega)
      · first | exact Or.inl ⟨by omega, rfl⟩ | exact Or.inr ⟨by omega, f4, Or.inl ⟨by omega, e3, f5⟩⟩
  · refine AW.bipush (pc' := 10) dX5_come_8 (by decide) ?_
    refine AW.iret dX5_come_10 ?_ ?_
    · refine congrArg (fun z : Int => (some (vI z) : Option AV)) ?_
      first | (rw [if_pos (by omega)]; done) | (rw [if_neg (by omega), if_pos (by omega)]; done) | (rw [if_neg (by omega), if_neg (by omega)]; try omega)
    · first | exact Or.inl ⟨by omega, rfl⟩ | exact Or.inr ⟨by omega, f4, Or.inl ⟨by omega, e3, f5⟩⟩
set_option maxRecDepth 100000 in
set_option maxHeartbeats 4000000 in
theorem c_X5_says {K : KT} {dep : Nat} {h : Hp} {a : Int} (hd : 51 ≤ dep) (q0 : 0 ≤ a ∧ a < 4) (q1 : 0 ≤ h 34 a.toNat ∧ h 34 a.toNat ≤ 120) : AM K yX5_says cX5_says 2 (some .int) dep [vR 26, vI a] h (some (vI (rdX (h (30 + a.toNat)) (h 34 a.toNat) (h 27)).1)) (LH (hset (hset h 26 6 ((30 + a.toNat : Nat) : Int)) 26 7 (h 34 a.toNat)) (rdX (h (30 + a.toNat)) (h 34 a.toNat) (h 27)).2) := by
  refine AM.of (own := RX5) (ls := [some (vR 26), some (vI a)]) rfl (by decide +kernel) (by exact Nat.le_of_ble_eq_true rfl) rfl (fun hO => ?_)
  refine AW.aload_n (pc' := 1) dX5_says_0 rfl ?_
  refine AW.aload_n (pc' := 2) dX5_says_1 rfl ?_
  refine AW.getR (pc' := 5) dX5_says_2 ly_26 fX5_21 rfl ?_
  by_cases v5_0 : a = 0
  · subst v5_0
    refine AW.iload_n (pc' := 6) dX5_says_5 rfl ?_
    refine AW.aaldB (t := 30) (pc' := 7) dX5_says_6 ly_29 (by decide) (by decide) (by decide) rfl ?_
    refine AW.aload_n (pc' := 8) dX5_says_7 rfl ?_
    refine AW.getR (pc' := 11) dX5_says_8 ly_26 fX5_24 rfl ?_
    refine AW.iload_n (pc' := 12) dX5_says_11 rfl ?_
    first | refine AW.ialdN (pc' := 13) dX5_says_12 ly_34 (by first | assumption | omega | (constructor <;> omega) | (simp only [Int.toNat_natCast]; omega) | exact b2_in _) (by decide) (fun r12 => ?_) | refine AW.iald (pc' := 13) dX5_says_12 ly_34 (by first | assumption | omega | (constructor <;> omega) | (simp only [Int.toNat_natCast]; omega) | exact b2_in _) (by first | assumption | omega | (constructor <;> omega) | (simp only [Int.toNat_natCast]; omega) | exact b2_in _) (by decide) (fun r12 => ?_)
    try simp only [Int.reduceToNat] at r12 ⊢
    refine AW.invV2 (pc' := 16) dX5_says_13 mlX5_37 mX5_read ly_26 rfl (c_X5_read30 (dep := dep - 1) (by omega) q1) ?_
    try simp only [Int.toNat_natCast, Int.reduceToNat]
    refine AW.iret dX5_says_16 ?_ ?_
    · rfl
    · rfl
  by_cases v5_1 : a = 1
  · subst v5_1
    refine AW.iload_n (pc' := 6) dX5_says_5 rfl ?_
    refine AW.aaldB (t := 31) (pc' := 7) dX5_says_6 ly_29 (by decide) (by decide) (by decide) rfl ?_
    refine AW.aload_n (pc' := 8) dX5_says_7 rfl ?_
    refine AW.getR (pc' := 11) dX5_says_8 ly_26 fX5_24 rfl ?_
    refine AW.iload_n (pc' := 12) dX5_says_11 rfl ?_
    first | refine AW.ialdN (pc' := 13) dX5_says_12 ly_34 (by first | assumption | omega | (constructor <;> omega) | (simp only [Int.toNat_natCast]; omega) | exact b2_in _) (by decide) (fun r12 => ?_) | refine AW.iald (pc' := 13) dX5_says_12 ly_34 (by first | assumption | omega | (constructor <;> omega) | (simp only [Int.toNat_natCast]; omega) | exact b2_in _) (by first | assumption | omega | (constructor <;> omega) | (simp only [Int.toNat_natCast]; omega) | exact b2_in _) (by decide) (fun r12 => ?_)
    try simp only [Int.reduceToNat] at r12 ⊢
    refine AW.invV2 (pc' := 16) dX5_says_13 mlX5_37 mX5_read ly_26 rfl (c_X5_read31 (dep := dep - 1) (by omega) q1) ?_
    try simp only [Int.toNat_natCast, Int.reduceToNat]
    refine AW.iret dX5_says_16 ?_ ?_
    · rfl
    · rfl
  by_cases v5_2 : a = 2
  · subst v5_2
    refine AW.iload_n (pc' := 6) dX5_says_5 rfl ?_
    refine AW.aaldB (t := 32) (pc' := 7) dX5_says_6 ly_29 (by decide) (by decide) (by decide) rfl ?_
    refine AW.aload_n (pc' := 8) dX5_says_7 rfl ?_
    refine AW.getR (pc' := 11) dX5_says_8 ly_26 fX5_24 rfl ?_
    refine AW.iload_n (pc' := 12) dX5_says_11 rfl ?_
    first | refine AW.ialdN (pc' := 13) dX5_says_12 ly_34 (by first | assumption | omega | (constructor <;> omega) | (simp only [Int.toNat_natCast]; omega) | exact b2_in _) (by decide) (fun r12 => ?_) | refine AW.iald (pc' := 13) dX5_says_12 ly_34 (by first | assumption | omega | (constructor <;> omega) | (simp only [Int.toNat_natCast]; omega) | exact b2_in _) (by first | assumption | omega | (constructor <;> omega) | (simp only [Int.toNat_natCast]; omega) | exact b2_in _) (by decide) (fun r12 => ?_)
    try simp only [Int.reduceToNat] at r12 ⊢
    refine AW.invV2 (pc' := 16) dX5_says_13 mlX5_37 mX5_read ly_26 rfl (c_X5_read32 (dep := dep - 1) (by omega) q1) ?_
    try simp only [Int.toNat_natCast, Int.reduceToNat]
    refine AW.iret dX5_says_16 ?_ ?_
    · rfl
    · rfl
  by_cases v5_3 : a = 3
  · subst v5_3
    refine AW.iload_n (pc' := 6) dX5_says_5 rfl ?_
    refine AW.aaldB (t := 33) (pc' := 7) dX5_says_6 ly_29 (by decide) (by decide) (by decide) rfl ?_
    refine AW.aload_n (pc' := 8) dX5_says_7 rfl ?_
    refine AW.getR (pc' := 11) dX5_says_8 ly_26 fX5_24 rfl ?_
    refine AW.iload_n (pc' := 12) dX5_says_11 rfl ?_
    first | refine AW.ialdN (pc' := 13) dX5_says_12 ly_34 (by first | assumption | omega | (constructor <;> omega) | (simp only [Int.toNat_natCast]; omega) | exact b2_in _) (by decide) (fun r12 => ?_) | refine AW.iald (pc' := 13) dX5_says_12 ly_34 (by first | assumption | omega | (constructor <;> omega) | (simp only [Int.toNat_natCast]; omega) | exact b2_in _) (by first | assumption | omega | (constructor <;> omega) | (simp only [Int.toNat_natCast]; omega) | exact b2_in _) (by decide) (fun r12 => ?_)
    try simp only [Int.reduceToNat] at r12 ⊢
    refine AW.invV2 (pc' := 16) dX5_says_13 mlX5_37 mX5_read ly_26 rfl (c_X5_read33 (dep := dep - 1) (by omega) q1) ?_
    try simp only [Int.toNat_natCast, Int.reduceToNat]
    refine AW.iret dX5_says_16 ?_ ?_
    · rfl
    · rfl
  exfalso
  omega
def us8 (z : Int) : Int := ((Int32.ofInt z).toUInt32 >>> ((Int32.ofInt 8).toUInt32 &&& Int32.toUInt32 31)).toInt32.toInt
def drF (z : Int) : Int := wr (z * 1103515245 + 12345)
def ptF (z n : Int) : Int := (us8 z).tmod n
theorem ptF_in (z : Int) {n : Int} (h : 0 < n) : -n < ptF z n ∧ ptF z n < n := tmod_bounds (a := us8 z) (M := n) h
def tmF (flat luck : Int) : Int := if 10 < (if (flat * (1000 + luck)).tdiv 1000 < 29999 then (flat * (1000 + luck)).tdiv 1000 else 29999) then (if (flat * (1000 + luck)).tdiv 1000 < 29999 then (flat * (1000 + luck)).tdiv 1000 else 29999) else 10
theorem tmF_in (flat luck : Int) : 10 ≤ tmF flat luck ∧ tmF flat luck ≤ 29999 := by unfold tmF; (repeat' split) <;> omega
def nvF (a0 a1 a2 a3 a4 a5 a6 a7 a8 : Int) (j : Nat) : Int := if j = 0 then a0 else if j = 1 then a1 else if j = 2 then a2 else if j = 3 then a3 else if j = 4 then a4 else if j = 5 then a5 else if j = 6 then a6 else if j = 7 then a7 else if j = 8 then a8 else 0
set_option maxRecDepth 100000 in
set_option maxHeartbeats 4000000 in
theorem c_X11_part {K : KT} {dep : Nat} {h : Hp} {z n : Int}  (q0 : 0 < n ∧ n ≤ 1000) : AM K yX11_part cX11_part 2 (some .int) dep [vI z, vI n] h (some (vI (ptF z n))) (h) := by
  refine AM.of (own := RX11) (ls := [some (vI z), some (vI n)]) rfl (by decide +kernel) (by exact Nat.le_of_ble_eq_true rfl) rfl (fun hO => ?_)
  refine AW.iload_n (pc' := 1) dX11_part_0 rfl ?_
  refine AW.if_ne (tgt := 8) (pc' := 4) dX11_part_1 (by first | assumption | omega | (constructor <;> omega) | (simp only [Int.toNat_natCast]; omega) | exact b2_in _) (fun c1 => ?_) (fun c1 => ?_)
  · refine AW.iload_n (pc' := 9) dX11_part_8 rfl ?_
    refine AW.bipush (pc' := 11) dX11_part_9 (by decide) ?_
    refine AW.iushr (pc' := 12) dX11_part_11 ?_
    rw [show ((Int32.ofInt z).toUInt32 >>> ((Int32.ofInt 8).toUInt32 &&& Int32.toUInt32 31)).toInt32.toInt = us8 z from rfl]
    have ui : inI (us8 z) := in32 _
    refine AW.iload_n (pc' := 13) dX11_part_12 rfl ?_
    refine AW.irem (pc' := 14) dX11_part_13 (by first | assumption | omega | (constructor <;> omega) | (simp only [Int.toNat_natCast]; omega) | exact b2_in _) (by first | assumption | omega | (constructor <;> omega) | (simp only [Int.toNat_natCast]; omega) | exact b2_in _) (by first | assumption | omega | (constructor <;> omega) | (simp only [Int.toNat_natCast]; omega) | exact b2_in _) ?_
    refine AW.iret dX11_part_14 ?_ ?_
    · first | rfl | omega
    · first | rfl | omega
  · refine AW.iconst (pc' := 5) dX11_part_4 ?_
    refine AW.goto (tgt := 14) dX11_part_5 ?_
    refine AW.iret dX11_part_14 ?_ ?_
    · first | rfl | omega
    · first | rfl | omega
set_option maxRecDepth 100000 in
set_option maxHeartbeats 4000000 in
theorem c_X11_drawn2 {K : KT} {dep : Nat} {h : Hp} {z : Int}   : AM K yX11_drawn cX11_drawn 1 (some .int) dep [vI z] h (some (vI (drF z))) (h) := by
  refine AM.of (own := RX11) (ls := [some (vI z)]) rfl (by decide +kernel) (by exact Nat.le_of_ble_eq_true rfl) rfl (fun hO => ?_)
  refine AW.iload_n (pc' := 1) dX11_drawn_0 rfl ?_
  refine AW.ldc (v := 1103515245) (pc' := 3) dX11_drawn_1 kX11_197 ?_
  refine AW.imul (pc' := 4) dX11_drawn_3 ?_
  refine AW.sipush (pc' := 7) dX11_drawn_4 (by decide) ?_
  refine AW.iadd (pc' := 8) dX11_drawn_7 ?_
  refine AW.cong (b := drF z) (wr_of _) ?_
  refine AW.iret dX11_drawn_8 ?_ ?_
  all_goals first | rfl | exact congrArg (fun z : Int => (some (vI z) : Option AV)) (b2_t (by omega)) | exact congrArg (fun z : Int => (some (vI z) : Option AV)) (b2_f (by omega)) | ((repeat' split) <;> first | rfl | omega) | (refine congrArg (fun z : Int => (some (vI z) : Option AV)) ?_; (repeat' split) <;> first | rfl | omega)
set_option maxRecDepth 100000 in
set_option maxHeartbeats 4000000 in
theorem c_X11_timeOf {K : KT} {dep : Nat} {h : Hp} {a b c d : Int} (hd : 2 ≤ dep) (hI : IXa h) (q0 : 0 ≤ a ∧ a < h 1 4) (q1 : 0 ≤ b ∧ b < h 10 1) (q2 : 0 ≤ c ∧ c ≤ 99) (q3 : -500 ≤ d ∧ d ≤ 500) : AM K yX11_timeOf cX11_timeOf 6 (some .int) dep [vR 0, vI a, vI b, vI c, vI d] h (some (vI (tmF ((fThen (h 2) (h 3) a.toNat c * h 11 b.toNat).tdiv 1000) d))) (h) := by
  refine AM.of (own := RX11) (ls := [some (vR 0), some (vI a), some (vI b), some (vI c), some (vI d), none]) rfl (by decide +kernel) (by exact Nat.le_of_ble_eq_true rfl) rfl (fun hO => ?_)
  obtain ⟨-, -, f1, f2⟩ := fThen_in hI.1 (r := a.toNat) (by omega) q2.1 q2.2
  have hb := hI.2.2.1.2.2 b.toNat (by omega)
  have hc5 := hI.2.2.1.2.1
  have m1 := mul_in (a := fThen (h 2) (h 3) a.toNat c) (b := h 11 b.toNat) (A := 14949) (B := 2000) (by omega) (by omega) (by omega) (by omega) (by omega)
  have m0 : 0 ≤ fThen (h 2) (h 3) a.toNat c * h 11 b.toNat := Int.mul_nonneg (by omega) (by omega)
  have d1 := tdiv_abs (a := fThen (h 2) (h 3) a.toNat c * h 11 b.toNat) (b := 1000) (B := 29898000) (by decide) (by omega) (by omega)
  have d2 := tdiv_le (a := fThen (h 2) (h 3) a.toNat c * h 11 b.toNat) (b := 1000) m0 (by decide)
  have d3 : (fThen (h 2) (h 3) a.toNat c * h 11 b.toNat).tdiv 1000 ≤ 29898 := by rw [Int.tdiv_eq_ediv_of_nonneg m0]; omega
  have m2 := mul_in (a := (fThen (h 2) (h 3) a.toNat c * h 11 b.toNat).tdiv 1000) (b := 1000 + d) (A := 29898) (B := 1500) (by omega) (by omega) (by omega) (by omega) (by omega)
  have d4 := tdiv_abs (a := ((fThen (h 2) (h 3) a.toNat c * h 11 b.toNat).tdiv 1000) * (1000 + d)) (b := 1000) (B := 44847000) (by decide) (by omega) (by omega)
  refine AW.aload_n (pc' := 1) dX11_timeOf_0 rfl ?_
  refine AW.getR (pc' := 4) dX11_timeOf_1 ly_0 fX11_10 rfl ?_
  refine AW.iload_n (pc' := 5) dX11_timeOf_4 rfl ?_
  refine AW.iload_n (pc' := 6) dX11_timeOf_5 rfl ?_
  refine AW.invV2 (pc' := 9) dX11_timeOf_6 mlX11_201 mX6_formThen ly_1 rfl (c_X6_formThen (dep := dep - 1) (by first | assumption | omega | (constructor <;> omega) | (simp only [Int.toNat_natCast]; omega) | exact b2_in _) (by first | assumption | omega | (constructor <;> omega) | (simp only [Int.toNat_natCast]; omega) | exact b2_in _) (by first | assumption | omega | (constructor <;> omega) | (simp only [Int.toNat_natCast]; omega) | exact b2_in _) (by first | assumption | omega | (constructor <;> omega) | (simp only [Int.toNat_natCast]; omega) | exact b2_in _)) ?_
  refine AW.aload_n (pc' := 10) dX11_timeOf_9 rfl ?_
  refine AW.getR (pc' := 13) dX11_timeOf_10 ly_0 fX11_26 rfl ?_
  refine AW.getR (pc' := 16) dX11_timeOf_13 ly_10 fX11_219 rfl ?_
  refine AW.iload_n (pc' := 17) dX11_timeOf_16 rfl ?_
  first | refine AW.ialdN (pc' := 18) dX11_timeOf_17 ly_11 (by first | assumption | omega | (constructor <;> omega) | (simp only [Int.toNat_natCast]; omega) | exact b2_in _) (by decide) (fun r17 => ?_) | refine AW.iald (pc' := 18) dX11_timeOf_17 ly_11 (by first | assumption | omega | (constructor <;> omega) | (simp only [Int.toNat_natCast]; omega) | exact b2_in _) (by first | assumption | omega | (constructor <;> omega) | (simp only [Int.toNat_natCast]; omega) | exact b2_in _) (by decide) (fun r17 => ?_)
  refine AW.imul (pc' := 19) dX11_timeOf_18 ?_
  refine AW.sipush (pc' := 22) dX11_timeOf_19 (by decide) ?_
  refine AW.idiv (pc' := 23) dX11_timeOf_22 (by first | assumption | omega | (constructor <;> omega) | (simp only [Int.toNat_natCast]; omega) | exact b2_in _) (by first | assumption | omega | (constructor <;> omega) | (simp only [Int.toNat_natCast]; omega) | exact b2_in _) (by first | assumption | omega | (constructor <;> omega) | (simp only [Int.toNat_natCast]; omega) | exact b2_in _) ?_
  refine AW.istore5 (pc' := 25) dX11_timeOf_23 (by decide) rfl ?_
  refine AW.bipush (pc' := 27) dX11_timeOf_25 (by decide) ?_
  refine AW.sipush (pc' := 30) dX11_timeOf_27 (by decide) ?_
  refine AW.iload (pc' := 32) dX11_timeOf_30 rfl ?_
  refine AW.sipush (pc' := 35) dX11_timeOf_32 (by decide) ?_
  refine AW.iload (pc' := 37) dX11_timeOf_35 rfl ?_
  refine AW.iadd (pc' := 38) dX11_timeOf_37 ?_
  refine AW.imul (pc' := 39) dX11_timeOf_38 ?_
  refine AW.sipush (pc' := 42) dX11_timeOf_39 (by decide) ?_
  refine AW.idiv (pc' := 43) dX11_timeOf_42 (by first | assumption | omega | (constructor <;> omega) | (simp only [Int.toNat_natCast]; omega) | exact b2_in _) (by first | assumption | omega | (constructor <;> omega) | (simp only [Int.toNat_natCast]; omega) | exact b2_in _) (by first | assumption | omega | (constructor <;> omega) | (simp only [Int.toNat_natCast]; omega) | exact b2_in _) ?_
  refine AW.mmin (pc' := 46) dX11_timeOf_43 mlX11_222 (by first | assumption | omega | (constructor <;> omega) | (simp only [Int.toNat_natCast]; omega) | exact b2_in _) (by first | assumption | omega | (constructor <;> omega) | (simp only [Int.toNat_natCast]; omega) | exact b2_in _) ?_
  have mi : inI (if (((fThen (h 2) (h 3) a.toNat c * h 11 b.toNat).tdiv 1000) * (1000 + d)).tdiv 1000 < 29999 then (((fThen (h 2) (h 3) a.toNat c * h 11 b.toNat).tdiv 1000) * (1000 + d)).tdiv 1000 else 29999) := by split <;> constructor <;> omega
  refine AW.mmax (pc' := 49) dX11_timeOf_46 mlX11_227 (by first | assumption | omega | (constructor <;> omega) | (simp only [Int.toNat_natCast]; omega) | exact b2_in _) (by first | assumption | omega | (constructor <;> omega) | (simp only [Int.toNat_natCast]; omega) | exact b2_in _) ?_
  refine AW.iret dX11_timeOf_49 ?_ ?_
  · rfl
  · rfl
/-- the laws' scratch -/
def WS (h x : Hp) : Prop := EX [26, 27] h x ∧ x 26 4 = h 26 4 ∧ x 26 5 = h 26 5
theorem WS.rf {h : Hp} : WS h h := ⟨EX.rf, rfl, rfl⟩
theorem WS.tr {h h1 h2 : Hp} (a : WS h h1) (b : WS h1 h2) : WS h h2 := ⟨a.1.tr b.1, b.2.1.trans a.2.1, b.2.2.trans a.2.2⟩
theorem lessL_in {fm dr : Nat → Int} {y own : Int} : ∀ (n k : Nat) (acc : Int), acc ≤ lp (lessS fm dr y own) n k acc ∧ lp (lessS fm dr y own) n k acc ≤ acc + n
  | 0, k, acc => by unfold lp; omega
  | n + 1, k, acc => by
    unfold lp
    have a := lessS_in fm dr y own k acc
    have b := lessL_in (fm := fm) (dr := dr) (y := y) (own := own) n (k + 1) (lessS fm dr y own k acc)
    omega
theorem lessF_in {n : Int} (hn : 0 ≤ n) (fm dr : Nat → Int) (r : Nat) (y : Int) : 0 ≤ lessF n fm dr r y ∧ lessF n fm dr r y ≤ n := by
  have := lessL_in (fm := fm) (dr := dr) (y := y) (own := fThen fm dr r y) n.toNat 0 0
  unfold lessF
  omega
set_option maxRecDepth 100000 in
set_option maxHeartbeats 4000000 in
theorem c_X11_wears {K : KT} {dep : Nat} {h : Hp} {a b c d e : Int} (hd : 53 ≤ dep) (hI : IXa h) (q0 : 0 ≤ a ∧ a < 4) (q1 : 0 ≤ h 34 a.toNat ∧ h 34 a.toNat ≤ 120) (q2 : 0 ≤ b ∧ b < h 1 4) (q3 : 0 ≤ c ∧ c ≤ 99) (q4 : 0 ≤ d ∧ d < h 6 3) (q5 : inI e) : AMp K yX11_wears cX11_wears 7 (some .boolean) dep [vR 0, vI a, vI b, vI c, vI d, vI e] h (some (vI (b2 ((rdX (h (30 + a.toNat)) (h 34 a.toNat) (nvF ((fThen (h 2) (h 3) b.toNat c).tdiv 10) (h 4 b.toNat) (h 5 b.toNat) c (lessF (h 1 4) (h 2) (h 3) b.toNat c) (h 1 4) (h 8 d.toNat) (h 7 d.toNat) e)).1 ≠ 0)))) (fun x => WS h x) := by
  refine AM.of (own := RX11) (ls := [some (vR 0), some (vI a), some (vI b), some (vI c), some (vI d), some (vI e), none]) rfl (by decide +kernel) (by exact Nat.le_of_ble_eq_true rfl) rfl (fun hO => ?_)
  obtain ⟨-, -, f1, f2⟩ := fThen_in hI.1 (r := b.toNat) (by omega) q3.1 q3.2
  have d1 := tdiv_le (a := fThen (h 2) (h 3) b.toNat c) (b := 10) (by omega) (by decide)
  have lf := lessF_in (n := h 1 4) (by omega) (h 2) (h 3) b.toNat c
  have g20 := hI.1.2.1
  have g6 := hI.2.1.2.1
  refine AW.aload_n (pc' := 1) dX11_wears_0 rfl ?_
  refine AW.getR (pc' := 4) dX11_wears_1 ly_0 fX11_51 rfl ?_
  refine AW.getR (pc' := 7) dX11_wears_4 ly_26 fX11_198 rfl ?_
  refine AW.astore6 (pc' := 9) dX11_wears_7 (by decide) rfl ?_
  refine AW.aload (pc' := 11) dX11_wears_9 rfl ?_
  refine AW.iconst (pc' := 12) dX11_wears_11 ?_
  refine AW.aload_n (pc' := 13) dX11_wears_12 rfl ?_
  refine AW.getR (pc' := 16) dX11_wears_13 ly_0 fX11_10 rfl ?_
  refine AW.iload_n (pc' := 17) dX11_wears_16 rfl ?_
  refine AW.iload_n (pc' := 18) dX11_wears_17 rfl ?_
  refine AW.invV2 (pc' := 21) dX11_wears_18 mlX11_201 mX6_formThen ly_1 rfl (c_X6_formThen (dep := dep - 1) (by first | assumption | omega | (constructor <;> omega) | (simp only [Int.toNat_natCast]; omega) | exact b2_in _) (by first | assumption | omega | (constructor <;> omega) | (simp only [Int.toNat_natCast]; omega) | exact b2_in _) (by first | assumption | omega | (constructor <;> omega) | (simp only [Int.toNat_natCast]; omega) | exact b2_in _) (by first | assumption | omega | (constructor <;> omega) | (simp only [Int.toNat_natCast]; omega) | exact b2_in _)) ?_
  try simp only [Int.toNat_natCast, w1, w2, w3, w6, w7, w8]
  refine AW.bipush (pc' := 23) dX11_wears_21 (by decide) ?_
  refine AW.idiv (pc' := 24) dX11_wears_23 (by first | assumption | omega | (constructor <;> omega) | (simp only [Int.toNat_natCast]; omega) | exact b2_in _) (by first | assumption | omega | (constructor <;> omega) | (simp only [Int.toNat_natCast]; omega) | exact b2_in _) (by first | assumption | omega | (constructor <;> omega) | (simp only [Int.toNat_natCast]; omega) | exact b2_in _) ?_
  first | refine AW.iastN (pc' := 25) dX11_wears_24 ly_27 (by first | assumption | omega | (constructor <;> omega) | (simp only [Int.toNat_natCast]; omega) | exact b2_in _) (by decide) (by first | assumption | omega | (constructor <;> omega) | (simp only [Int.toNat_natCast]; omega) | exact b2_in _) ?_ | refine AW.iast (pc' := 25) dX11_wears_24 ly_27 (by first | assumption | omega | (constructor <;> omega) | (simp only [Int.toNat_natCast]; omega) | exact b2_in _) (by first | assumption | omega | (constructor <;> omega) | (simp only [Int.toNat_natCast]; omega) | exact b2_in _) (by decide) (by first | assumption | omega | (constructor <;> omega) | (simp only [Int.toNat_natCast]; omega) | exact b2_in _) ?_
  refine AW.aload (pc' := 27) dX11_wears_25 rfl ?_
  refine AW.iconst (pc' := 28) dX11_wears_27 ?_
  refine AW.aload_n (pc' := 29) dX11_wears_28 rfl ?_
  refine AW.getR (pc' := 32) dX11_wears_29 ly_0 fX11_10 rfl ?_
  refine AW.getR (pc' := 35) dX11_wears_32 ly_1 fX11_204 rfl ?_
  refine AW.iload_n (pc' := 36) dX11_wears_35 rfl ?_
  first | refine AW.ialdN (pc' := 37) dX11_wears_36 ly_4 (by first | assumption | omega | (constructor <;> omega) | (simp only [Int.toNat_natCast]; omega) | exact b2_in _) (by decide) (fun r36 => ?_) | refine AW.iald (pc' := 37) dX11_wears_36 ly_4 (by first | assumption | omega | (constructor <;> omega) | (simp only [Int.toNat_natCast]; omega) | exact b2_in _) (by first | assumption | omega | (constructor <;> omega) | (simp only [Int.toNat_natCast]; omega) | exact b2_in _) (by decide) (fun r36 => ?_)
  try simp only [w1, w2, w3, w6, w7, w8] at r36 ⊢
  try simp only [hset_app, Nat.reduceEqDiff, false_and, and_false, true_and, and_true, reduceIte] at r36 ⊢
  first | refine AW.iastN (pc' := 38) dX11_wears_37 ly_27 (by first | assumption | omega | (constructor <;> omega) | (simp only [Int.toNat_natCast]; omega) | exact b2_in _) (by decide) (by first | assumption | omega | (constructor <;> omega) | (simp only [Int.toNat_natCast]; omega) | exact b2_in _) ?_ | refine AW.iast (pc' := 38) dX11_wears_37 ly_27 (by first | assumption | omega | (constructor <;> omega) | (simp only [Int.toNat_natCast]; omega) | exact b2_in _) (by first | assumption | omega | (constructor <;> omega) | (simp only [Int.toNat_natCast]; omega) | exact b2_in _) (by decide) (by first | assumption | omega | (constructor <;> omega) | (simp only [Int.toNat_natCast]; omega) | exact b2_in _) ?_
  refine AW.aload (pc' := 40) dX11_wears_38 rfl ?_
  refine AW.iconst (pc' := 41) dX11_wears_40 ?_
  refine AW.aload_n (pc' := 42) dX11_wears_41 rfl ?_
  refine AW.getR (pc' := 45) dX11_wears_42 ly_0 fX11_10 rfl ?_
  refine AW.getR (pc' := 48) dX11_wears_45 ly_1 fX11_207 rfl ?_
  refine AW.iload_n (pc' := 49) dX11_wears_48 rfl ?_
  first | refine AW.ialdN (pc' := 50) dX11_wears_49 ly_5 (by first | assumption | omega | (constructor <;> omega) | (simp only [Int.toNat_natCast]; omega) | exact b2_in _) (by decide) (fun r49 => ?_) | refine AW.iald (pc' := 50) dX11_wears_49 ly_5 (by first | assumption | omega | (constructor <;> omega) | (simp only [Int.toNat_natCast]; omega) | exact b2_in _) (by first | assumption | omega | (constructor <;> omega) | (simp only [Int.toNat_natCast]; omega) | exact b2_in _) (by decide) (fun r49 => ?_)
  try simp only [w1, w2, w3, w6, w7, w8] at r49 ⊢
  try simp only [hset_app, Nat.reduceEqDiff, false_and, and_false, true_and, and_true, reduceIte] at r49 ⊢
  first | refine AW.iastN (pc' := 51) dX11_wears_50 ly_27 (by first | assumption | omega | (constructor <;> omega) | (simp only [Int.toNat_natCast]; omega) | exact b2_in _) (by decide) (by first | assumption | omega | (constructor <;> omega) | (simp only [Int.toNat_natCast]; omega) | exact b2_in _) ?_ | refine AW.iast (pc' := 51) dX11_wears_50 ly_27 (by first | assumption | omega | (constructor <;> omega) | (simp only [Int.toNat_natCast]; omega) | exact b2_in _) (by first | assumption | omega | (constructor <;> omega) | (simp only [Int.toNat_natCast]; omega) | exact b2_in _) (by decide) (by first | assumption | omega | (constructor <;> omega) | (simp only [Int.toNat_natCast]; omega) | exact b2_in _) ?_
  refine AW.aload (pc' := 53) dX11_wears_51 rfl ?_
  refine AW.iconst (pc' := 54) dX11_wears_53 ?_
  refine AW.iload_n (pc' := 55) dX11_wears_54 rfl ?_
  first | refine AW.iastN (pc' := 56) dX11_wears_55 ly_27 (by first | assumption | omega | (constructor <;> omega) | (simp only [Int.toNat_natCast]; omega) | exact b2_in _) (by decide) (by first | assumption | omega | (constructor <;> omega) | (simp only [Int.toNat_natCast]; omega) | exact b2_in _) ?_ | refine AW.iast (pc' := 56) dX11_wears_55 ly_27 (by first | assumption | omega | (constructor <;> omega) | (simp only [Int.toNat_natCast]; omega) | exact b2_in _) (by first | assumption | omega | (constructor <;> omega) | (simp only [Int.toNat_natCast]; omega) | exact b2_in _) (by decide) (by first | assumption | omega | (constructor <;> omega) | (simp only [Int.toNat_natCast]; omega) | exact b2_in _) ?_
  refine AW.aload (pc' := 58) dX11_wears_56 rfl ?_
  refine AW.iconst (pc' := 59) dX11_wears_58 ?_
  obtain ⟨h5, gh5⟩ : ∃ z, z = hset (hset (hset (hset h 27 (0 : Int).toNat ((fThen (h 2) (h 3) b.toNat c).tdiv 10)) 27 (1 : Int).toNat (h 4 b.toNat)) 27 (2 : Int).toNat (h 5 b.toNat)) 27 (3 : Int).toNat c := ⟨_, rfl⟩
  first | rw [← gh5] | (simp only [Int.reduceToNat] at gh5 ⊢; rw [← gh5])
  have e5 : EX [27] h h5 := by rw [gh5]; exact (((EX.rf.st rfl).st rfl).st rfl).st rfl
  have hI5 := hI.ex e5 rfl
  have w1 := e5 1 rfl
  have g14 : h5 1 4 = h 1 4 := by rw [w1]
  have w2 := e5 2 rfl
  have w3 := e5 3 rfl
  have w6 := e5 6 rfl
  have w7 := e5 7 rfl
  have w8 := e5 8 rfl
  refine AW.aload_n (pc' := 60) dX11_wears_59 rfl ?_
  refine AW.getR (pc' := 63) dX11_wears_60 ly_0 fX11_10 rfl ?_
  refine AW.iload_n (pc' := 64) dX11_wears_63 rfl ?_
  refine AW.iload_n (pc' := 65) dX11_wears_64 rfl ?_
  refine AW.invV2 (pc' := 68) dX11_wears_65 mlX11_210 mX6_ahead ly_1 rfl (c_X6_ahead (dep := dep - 1) (by first | assumption | omega | (constructor <;> omega) | (simp only [Int.toNat_natCast]; omega) | exact b2_in _) (by first | assumption | omega | (constructor <;> omega) | (simp only [Int.toNat_natCast]; omega) | exact b2_in _) (by first | assumption | omega | (constructor <;> omega) | (simp only [Int.toNat_natCast]; omega) | exact b2_in _) (by first | assumption | omega | (constructor <;> omega) | (simp only [Int.toNat_natCast]; omega) | exact b2_in _)) ?_
  try simp only [Int.toNat_natCast, w1, w2, w3, w6, w7, w8]
  first | refine AW.iastN (pc' := 69) dX11_wears_68 ly_27 (by first | assumption | omega | (constructor <;> omega) | (simp only [Int.toNat_natCast]; omega) | exact b2_in _) (by decide) (by first | assumption | omega | (constructor <;> omega) | (simp only [Int.toNat_natCast]; omega) | exact b2_in _) ?_ | refine AW.iast (pc' := 69) dX11_wears_68 ly_27 (by first | assumption | omega | (constructor <;> omega) | (simp only [Int.toNat_natCast]; omega) | exact b2_in _) (by first | assumption | omega | (constructor <;> omega) | (simp only [Int.toNat_natCast]; omega) | exact b2_in _) (by decide) (by first | assumption | omega | (constructor <;> omega) | (simp only [Int.toNat_natCast]; omega) | exact b2_in _) ?_
  refine AW.aload (pc' := 71) dX11_wears_69 rfl ?_
  refine AW.iconst (pc' := 72) dX11_wears_71 ?_
  refine AW.aload_n (pc' := 73) dX11_wears_72 rfl ?_
  refine AW.getR (pc' := 76) dX11_wears_73 ly_0 fX11_10 rfl ?_
  refine AW.getI (pc' := 79) dX11_wears_76 ly_1 fX11_181 rfl (fun r76 => ?_)
  try simp only [w1, w2, w3, w6, w7, w8] at r76 ⊢
  try simp only [hset_app, Nat.reduceEqDiff, false_and, and_false, true_and, and_true, reduceIte] at r76 ⊢
  first | refine AW.iastN (pc' := 80) dX11_wears_79 ly_27 (by first | assumption | omega | (constructor <;> omega) | (simp only [Int.toNat_natCast]; omega) | exact b2_in _) (by decide) (by first | assumption | omega | (constructor <;> omega) | (simp only [Int.toNat_natCast]; omega) | exact b2_in _) ?_ | refine AW.iast (pc' := 80) dX11_wears_79 ly_27 (by first | assumption | omega | (constructor <;> omega) | (simp only [Int.toNat_natCast]; omega) | exact b2_in _) (by first | assumption | omega | (constructor <;> omega) | (simp only [Int.toNat_natCast]; omega) | exact b2_in _) (by decide) (by first | assumption | omega | (constructor <;> omega) | (simp only [Int.toNat_natCast]; omega) | exact b2_in _) ?_
  refine AW.aload (pc' := 82) dX11_wears_80 rfl ?_
  refine AW.bipush (pc' := 84) dX11_wears_82 (by decide) ?_
  refine AW.aload_n (pc' := 85) dX11_wears_84 rfl ?_
  refine AW.getR (pc' := 88) dX11_wears_85 ly_0 fX11_19 rfl ?_
  refine AW.getR (pc' := 91) dX11_wears_88 ly_6 fX11_191 rfl ?_
  refine AW.iload (pc' := 93) dX11_wears_91 rfl ?_
  first | refine AW.ialdN (pc' := 94) dX11_wears_93 ly_8 (by first | assumption | omega | (constructor <;> omega) | (simp only [Int.toNat_natCast]; omega) | exact b2_in _) (by decide) (fun r93 => ?_) | refine AW.iald (pc' := 94) dX11_wears_93 ly_8 (by first | assumption | omega | (constructor <;> omega) | (simp only [Int.toNat_natCast]; omega) | exact b2_in _) (by first | assumption | omega | (constructor <;> omega) | (simp only [Int.toNat_natCast]; omega) | exact b2_in _) (by decide) (fun r93 => ?_)
  try simp only [w1, w2, w3, w6, w7, w8] at r93 ⊢
  try simp only [hset_app, Nat.reduceEqDiff, false_and, and_false, true_and, and_true, reduceIte] at r93 ⊢
  first | refine AW.iastN (pc' := 95) dX11_wears_94 ly_27 (by first | assumption | omega | (constructor <;> omega) | (simp only [Int.toNat_natCast]; omega) | exact b2_in _) (by decide) (by first | assumption | omega | (constructor <;> omega) | (simp only [Int.toNat_natCast]; omega) | exact b2_in _) ?_ | refine AW.iast (pc' := 95) dX11_wears_94 ly_27 (by first | assumption | omega | (constructor <;> omega) | (simp only [Int.toNat_natCast]; omega) | exact b2_in _) (by first | assumption | omega | (constructor <;> omega) | (simp only [Int.toNat_natCast]; omega) | exact b2_in _) (by decide) (by first | assumption | omega | (constructor <;> omega) | (simp only [Int.toNat_natCast]; omega) | exact b2_in _) ?_
  refine AW.aload (pc' := 97) dX11_wears_95 rfl ?_
  refine AW.bipush (pc' := 99) dX11_wears_97 (by decide) ?_
  refine AW.aload_n (pc' := 100) dX11_wears_99 rfl ?_
  refine AW.getR (pc' := 103) dX11_wears_100 ly_0 fX11_19 rfl ?_
  refine AW.getR (pc' := 106) dX11_wears_103 ly_6 fX11_213 rfl ?_
  refine AW.iload (pc' := 108) dX11_wears_106 rfl ?_
  first | refine AW.ialdN (pc' := 109) dX11_wears_108 ly_7 (by first | assumption | omega | (constructor <;> omega) | (simp only [Int.toNat_natCast]; omega) | exact b2_in _) (by decide) (fun r108 => ?_) | refine AW.iald (pc' := 109) dX11_wears_108 ly_7 (by first | assumption | omega | (constructor <;> omega) | (simp only [Int.toNat_natCast]; omega) | exact b2_in _) (by first | assumption | omega | (constructor <;> omega) | (simp only [Int.toNat_natCast]; omega) | exact b2_in _) (by decide) (fun r108 => ?_)
  try simp only [w1, w2, w3, w6, w7, w8] at r108 ⊢
  try simp only [hset_app, Nat.reduceEqDiff, false_and, and_false, true_and, and_true, reduceIte] at r108 ⊢
  first | refine AW.iastN (pc' := 110) dX11_wears_109 ly_27 (by first | assumption | omega | (constructor <;> omega) | (simp only [Int.toNat_natCast]; omega) | exact b2_in _) (by decide) (by first | assumption | omega | (constructor <;> omega) | (simp only [Int.toNat_natCast]; omega) | exact b2_in _) ?_ | refine AW.iast (pc' := 110) dX11_wears_109 ly_27 (by first | assumption | omega | (constructor <;> omega) | (simp only [Int.toNat_natCast]; omega) | exact b2_in _) (by first | assumption | omega | (constructor <;> omega) | (simp only [Int.toNat_natCast]; omega) | exact b2_in _) (by decide) (by first | assumption | omega | (constructor <;> omega) | (simp only [Int.toNat_natCast]; omega) | exact b2_in _) ?_
  refine AW.aload (pc' := 112) dX11_wears_110 rfl ?_
  refine AW.bipush (pc' := 114) dX11_wears_112 (by decide) ?_
  refine AW.iload (pc' := 116) dX11_wears_114 rfl ?_
  first | refine AW.iastN (pc' := 117) dX11_wears_116 ly_27 (by first | assumption | omega | (constructor <;> omega) | (simp only [Int.toNat_natCast]; omega) | exact b2_in _) (by decide) (by first | assumption | omega | (constructor <;> omega) | (simp only [Int.toNat_natCast]; omega) | exact b2_in _) ?_ | refine AW.iast (pc' := 117) dX11_wears_116 ly_27 (by first | assumption | omega | (constructor <;> omega) | (simp only [Int.toNat_natCast]; omega) | exact b2_in _) (by first | assumption | omega | (constructor <;> omega) | (simp only [Int.toNat_natCast]; omega) | exact b2_in _) (by decide) (by first | assumption | omega | (constructor <;> omega) | (simp only [Int.toNat_natCast]; omega) | exact b2_in _) ?_
  refine AW.aload_n (pc' := 118) dX11_wears_117 rfl ?_
  refine AW.getR (pc' := 121) dX11_wears_118 ly_0 fX11_51 rfl ?_
  refine AW.iload_n (pc' := 122) dX11_wears_121 rfl ?_
  generalize gh6 : hset _ 27 _ e = h6
  have e6 : EX [27] h h6 := by rw [← gh6]; exact ((((e5.st rfl).st rfl).st rfl).st rfl).st rfl
  have r6 : ∀ j : Nat, j < 9 → h6 27 j = (nvF ((fThen (h 2) (h 3) b.toNat c).tdiv 10) (h 4 b.toNat) (h 5 b.toNat) c (lessF (h 1 4) (h 2) (h 3) b.toNat c) (h 1 4) (h 8 d.toNat) (h 7 d.toNat) e) j := fun j hj => by
    rw [← gh6, gh5]
    have : j = 0 ∨ j = 1 ∨ j = 2 ∨ j = 3 ∨ j = 4 ∨ j = 5 ∨ j = 6 ∨ j = 7 ∨ j = 8 := by omega
    rcases this with rfl | rfl | rfl | rfl | rfl | rfl | rfl | rfl | rfl <;> rfl
  have q16 : 0 ≤ h6 34 a.toNat ∧ h6 34 a.toNat ≤ 120 := by rw [e6 34 rfl]; exact q1
  have r30 : h6 (30 + a.toNat) = h (30 + a.toNat) := e6 _ (by simp; omega)
  refine AW.invV1 (pc' := 125) dX11_wears_122 mlX11_216 mX5_says ly_26 rfl (c_X5_says (dep := dep - 1) (by omega) q0 q16) ?_
  try simp only [Int.toNat_natCast, w1, w2, w3, w6, w7, w8]
  rw [r30, e6 34 rfl, rdX_V r6]
  have vi := (rdX_K (T := h (30 + a.toNat)) (E := h 34 a.toNat) (V := (nvF ((fThen (h 2) (h 3) b.toNat c).tdiv 10) (h 4 b.toNat) (h 5 b.toNat) c (lessF (h 1 4) (h 2) (h 3) b.toNat c) (h 1 4) (h 8 d.toNat) (h 7 d.toNat) e)) q1.1 (fun j => by unfold nvF; (repeat' split) <;> first | (constructor <;> omega) | exact hO.ints ly_4 _ | exact hO.ints ly_5 _ | exact hO.ints ly_8 _ | exact hO.ints ly_7 _)).1
  generalize gh7 : LH _ _ = h7
  have e7 : WS h h7 := by
    refine ⟨fun k hk => ?_, ?_, ?_⟩
    · have kn : k ≠ 26 ∧ k ≠ 27 := by simp at hk; omega
      rw [← gh7, LH_row _ _ kn.1, hset_other k kn.1, hset_other k kn.1]
      exact e6 k (by simp; omega)
    · rw [← gh7, LH_slot _ _ (by decide) (by decide)]
      show h6 26 4 = _
      rw [e6 26 rfl]
    · rw [← gh7, LH_slot _ _ (by decide) (by decide)]
      show h6 26 5 = _
      rw [e6 26 rfl]
  refine AW.if_eq (tgt := 132) (pc' := 128) dX11_wears_125 (by first | assumption | omega | (constructor <;> omega) | (simp only [Int.toNat_natCast]; omega) | exact b2_in _) (fun c125 => ?_) (fun c125 => ?_)
  · refine AW.iconst (pc' := 133) dX11_wears_132 ?_
    refine AW.zret dX11_wears_133 ?_ ?_ (by first | exact Or.inl rfl | exact Or.inr rfl | exact b2_01 _ | assumption | (subst_vars; omega))
    · first | exact congrArg (fun z : Int => (some (vI z) : Option AV)) (b2_t (by omega)) | exact congrArg (fun z : Int => (some (vI z) : Option AV)) (b2_f (by omega)) | exact congrArg (fun z : Int => (some (vI z) : Option AV)) (b2_t (by omega)).symm | exact congrArg (fun z : Int => (some (vI z) : Option AV)) (b2_f (by omega)).symm
    · exact e7
  · refine AW.iconst (pc' := 129) dX11_wears_128 ?_
    refine AW.goto (tgt := 133) dX11_wears_129 ?_
    refine AW.zret dX11_wears_133 ?_ ?_ (by first | exact Or.inl rfl | exact Or.inr rfl | exact b2_01 _ | assumption | (subst_vars; omega))
    · first | exact congrArg (fun z : Int => (some (vI z) : Option AV)) (b2_t (by omega)) | exact congrArg (fun z : Int => (some (vI z) : Option AV)) (b2_f (by omega)) | exact congrArg (fun z : Int => (some (vI z) : Option AV)) (b2_t (by omega)).symm | exact congrArg (fun z : Int => (some (vI z) : Option AV)) (b2_f (by omega)).symm
    · exact e7
