/-! one call of both: those that only ask -/
theorem RlB.ix {g h : Hp} (R : RlB g h) : IXa g := R.2.2.2.2.1
theorem RlB.p1 {g h : Hp} (R : RlB g h) : PO (g 12 10) (g 18) := R.2.2.2.2.2.1.1
theorem RlB.p2 {g h : Hp} (R : RlB g h) : PO (g 12 10) (g 19) := R.2.2.2.2.2.2.1
theorem RLL.b {g h : Hp} (R : RLL g h) : RlB g h := R.2.1
theorem RLL.c {g h : Hp} (R : RLL g h) : RlC (g 12 10) (g 6 3) g h := R.2.2.1
theorem RLL.d {g h : Hp} (R : RLL g h) : RlD g h := R.2.2.2.1
theorem RLL.e {g h : Hp} (R : RLL g h) : RlE g h := R.2.2.2.2.1
theorem RLL.f {g h : Hp} (R : RLL g h) : RlF g h := R.2.2.2.2.2.1
theorem RLL.g {g h : Hp} (R : RLL g h) : RlG (g 43 2) g h := R.2.2.2.2.2.2
theorem vI_eq {a b : Int} (h : a = b) : (vI a : AV) = vI b := congrArg (fun z : Int => (vI z : AV)) h
theorem vL_eq {a b : Int} (h : a = b) : (vL a : AV) = vL b := congrArg (fun z : Int => (vL z : AV)) h
theorem k36 : ∀ k ∈ [36, 37], k < 57 ∧ ∀ j : Nat, [9].contains (gX k j) = true := fun k hk => by
  simp only [List.mem_cons, List.not_mem_nil, or_false] at hk
  rcases hk with rfl | rfl <;> exact ⟨by decide, fun _ => rfl⟩
theorem k367 : ∀ k ∈ [36, 37, 39], k < 57 ∧ ∀ j : Nat, [9].contains (gX k j) = true := fun k hk => by
  simp only [List.mem_cons, List.not_mem_nil, or_false] at hk
  rcases hk with rfl | rfl | rfl <;> exact ⟨by decide, fun _ => rfl⟩
theorem k389 : ∀ k ∈ [38, 39], k < 57 ∧ ∀ j : Nat, [9].contains (gX k j) = true := fun k hk => by
  simp only [List.mem_cons, List.not_mem_nil, or_false] at hk
  rcases hk with rfl | rfl <;> exact ⟨by decide, fun _ => rfl⟩
theorem sim_of {K : KT} {d : Nat} {h : Hp} {a b : Int} (hd : 130 ≤ d) (H : HOK h) (R : RLL h h) (q1 : inI a) (q2 : inI b) : SIMC K yX11_of cX11_of 3 yX12_of cX12_of 3 (some .int) vI d [vR 0, vI a, vI b] [vR 57, vI a, vI b] h := by
  refine SIMC.scr R (c_X11_of (by omega) R.b.ix R.b.p1 q1 q2) (fun x f => tX.eq f) (fun x f hx r => ?_)
  refine ⟨_, _, c_X12_of (by omega) r.b.im q1 q2, ?_, fun x2 f2 => tM.eq f2⟩
  by_cases z : ¬ (0 ≤ a ∧ a < h 12 10)
  · have d1 := r.b.2.2.2.1.1
    rw [if_pos z, ← d1, if_pos z]
  · have w := r.b.wh (a := a) (by omega) (by omega)
    obtain ⟨⟨a1, a2, a3, a4, a5⟩, ⟨b1, b2', b3, b4⟩, ⟨c1, c2⟩, ⟨d1, d2, d3, d4, d5, d6⟩, ix, k1, k2⟩ := r.b
    rw [if_neg z, w, ← d1, if_neg z, ← d2, ← d3, ← d4, ← d5, ← d6, ← c2, ← b3]
theorem sim_changed {K : KT} {d : Nat} {h : Hp} {a b : Int} (hd : 130 ≤ d) (H : HOK h) (R : RLL h h) (q1 : inI a) (q2 : inI b) : SIMC K yX11_changed cX11_changed 3 yX12_changed cX12_changed 4 (some .int) vI d [vR 0, vI a, vI b] [vR 57, vI a, vI b] h := by
  refine SIMC.scr R (c_X11_changed (by omega) R.b.ix R.b.p1 q1 q2) (fun x f => tX.ex f k36) (fun x f hx r => ?_)
  refine ⟨_, _, c_X12_changed (by omega) r.b.im q1 q2, ?_, fun x2 f2 => tM.scr f2 rfl⟩
  by_cases z : (0 ≤ a ∧ a ≤ 3) ∧ 0 ≤ b ∧ b ≤ 1
  · have e := r.b.pr a.toNat
    rw [Int.toNat_of_nonneg z.1.1] at e
    rw [if_pos z, if_pos z, e]
  · rw [if_neg z, if_neg z]
theorem sim_gain {K : KT} {d : Nat} {h : Hp} {a : Int} (hd : 130 ≤ d) (H : HOK h) (R : RLL h h) (q1 : inI a) : SIMC K yX11_gain cX11_gain 2 yX12_gain cX12_gain 5 (some .int) vI d [vR 0, vI a] [vR 57, vI a] h := by
  refine SIMC.scr R (c_X11_gain (by omega) R.b.ix R.b.p1 R.b.p2 q1) (fun x f => tX.ex f k367) (fun x f hx r => ?_)
  have e := r.b.ir
  have p1 : prX h 1 = prM x 1 := r.b.pr 1
  have pi := irF_in R.b.ix R.b.p2
  have mi := meanP_in pi (by decide)
  rw [e] at pi mi
  have hb : -1500000000 ≤ meanP (bsM x) ∧ meanP (bsM x) ≤ 1500000000 ∨ meanP (bsM x) = -2000000000 := by omega
  have hb2 : inI (bsM x).2 := by
    obtain ⟨u1, u2, u3, u4⟩ := pi
    constructor <;> omega
  refine ⟨_, _, c_X12_gain (by omega) r.b.im hb hb2 q1, ?_, fun x2 f2 => tM.scr f2 rfl⟩
  by_cases z : ¬ (0 ≤ a ∧ a ≤ 4)
  · rw [if_pos z, if_neg (by omega), if_neg (by omega), if_neg (by omega), if_neg (by omega), if_neg (by omega)]
  · rw [if_neg z, r.b.sin, e, bd_ls, bd_gt, p1]
    by_cases z0 : a = 0
    · rw [if_pos z0, if_pos z0]
    · rw [if_neg z0, if_neg z0]
      by_cases z1 : a = 1
      · rw [if_pos z1, if_pos z1]
      · rw [if_neg z1, if_neg z1]
        by_cases z2 : a = 2
        · rw [if_pos z2, if_pos z2]
        · rw [if_neg z2, if_neg z2]
          by_cases z3 : a = 3
          · rw [if_pos z3, if_pos z3]
          · rw [if_neg z3, if_neg z3, if_pos (by omega)]
theorem sim_unseen {K : KT} {d : Nat} {h : Hp} {a b : Int} (hd : 130 ≤ d) (H : HOK h) (R : RLL h h) (q1 : inI a) (q2 : inI b) : SIMC K yX11_unseen cX11_unseen 3 yX12_unseen cX12_unseen 10 (some .int) vI d [vR 0, vI a, vI b] [vR 57, vI a, vI b] h := by
  refine SIMC.scr R (c_X11_unseen (by omega) R.b.ix q1 q2) (fun x f => tX.ex f k389) (fun x f hx r => ?_)
  refine ⟨_, _, c_X12_unseen (by omega) r.b.im q1 q2, ?_, fun x2 f2 => tM.scr f2 rfl⟩
  have c1 := r.b.2.2.1.1
  by_cases z : ¬ (0 ≤ a ∧ (0 ≤ a.tdiv 100 ∧ a.tdiv 100 < h 10 1) ∧ 0 ≤ b ∧ b ≤ 1)
  · rw [if_pos z, ← c1, if_pos z]
  · rw [if_neg z, ← c1, if_neg z]
    exact (r.b.un (by omega) (h 38)).symm
theorem sim_person {K : KT} {d : Nat} {h : Hp} {a : Int} (hd : 130 ≤ d) (H : HOK h) (R : RLL h h) (q1 : inI a) : SIMC K yX11_person cX11_person 2 yX12_person cX12_person 2 (some .int) vI d [vR 0, vI a] [vR 57, vI a] h := by
  refine SIMC.scr R (c_X11_person (by omega) R.b.ix q1) (fun x f => tX.s1 f ⟨by decide, fun _ => rfl⟩) (fun x f hx r => ?_)
  refine ⟨_, _, c_X12_person (by omega) r.b.im q1, ?_, fun x2 f2 => tM.eq f2⟩
  rw [r.b.rg, r.b.1.1]
theorem sim_shares {K : KT} {d : Nat} {h : Hp} {a v w : Int} (hd : 130 ≤ d) (H : HOK h) (R : RLL h h) (q1 : inI a) (q2 : inI v) (q3 : inI w) : SIMC K yX11_shares cX11_shares 6 yX12_shares cX12_shares 7 (some .int) vI d [vR 0, vI a, vI v, vI w] [vR 57, vI a, vI v, vI w] h := by
  refine SIMC.scr R (c_X11_shares (by omega) R.b.ix q1 q2 q3) (fun x f => tX.s1 f ⟨by decide, fun _ => rfl⟩) (fun x f hx r => ?_)
  refine ⟨_, _, c_X12_shares (by omega) r.b.im q1 q2 q3, ?_, fun x2 f2 => tM.eq f2⟩
  rw [r.b.gf, r.b.1.1, r.b.1.2.2.2.2]
theorem sim_led {K : KT} {d : Nat} {h : Hp} (hd : 130 ≤ d) (H : HOK h) (R : RLL h h) : SIMC K yX11_led cX11_led 5 yX12_led cX12_led 4 (some .int) vI d [vR 0] [vR 57] h := by
  refine SIMC.scr R (c_X11_led (by omega) R.b.ix) (fun x f => tX.s1 f ⟨by decide, fun _ => rfl⟩) (fun x f hx r => ?_)
  refine ⟨_, _, c_X12_led (by omega) r.b.im, ?_, fun x2 f2 => tM.eq f2⟩
  rw [r.b.gf, r.b.1.1]
theorem sim_belt {K : KT} {d : Nat} {h : Hp} {a b : Int} (hd : 130 ≤ d) (H : HOK h) (R : RLL h h) (q1 : inI a) (q2 : inI b) : SIMC K yX11_belt cX11_belt 4 yX12_belt cX12_belt 3 (some .int) vI d [vR 0, vI a, vI b] [vR 57, vI a, vI b] h := by
  refine SIMC.scr R (c_X11_belt (by omega) R.e.2.2.2 R.b.ix.1 q1 q2) (fun x f => tX.eq f) (fun x f hx r => ?_)
  have pb : PBelt (x 57 49) (x 82) (x 83) := by
    obtain ⟨e1, e2, e3, e4⟩ := r.e
    rw [← e1, ← e2, ← e3]
    exact e4
  refine ⟨_, _, c_X12_belt (by omega) pb r.b.im.1 q1 q2, ?_, fun x2 f2 => tM.eq f2⟩
  obtain ⟨e1, e2, e3, e4⟩ := r.e
  by_cases z : h 40 2 = 0
  · rw [← r.b.1.1, ← e1, if_pos z, if_pos z]
  · rw [belt_eq e4 z, r.b.1.1, r.b.1.2.1, e1, e2, e3]
theorem sim_records {K : KT} {d : Nat} {h : Hp} {a c i : Int} (hd : 130 ≤ d) (H : HOK h) (R : RLL h h) (q1 : inI a) (q2 : inI c) (q3 : inI i) : SIMC K yX11_records cX11_records 4 yX12_records cX12_records 8 (some .int) vI d [vR 0, vI a, vI c, vI i] [vR 57, vI a, vI c, vI i] h := by
  refine SIMC.scr R (c_X11_records (by omega) R.b.ix R.b.p2 q1 q2 q3) (fun x f => tX.s1 f ⟨by decide, fun _ => rfl⟩) (fun x f hx r => ?_)
  refine ⟨_, _, c_X12_records (by omega) r.b.im q1 q2 q3, ?_, fun x2 f2 => tM.eq f2⟩
  rw [r.b.rcs, r.b.2.2.1.1]
theorem sim_best {K : KT} {d : Nat} {h : Hp} {c y w : Int} (hd : 130 ≤ d) (H : HOK h) (R : RLL h h) (q1 : inI c) (q2 : inI y) (q3 : inI w) : SIMC K yX11_best cX11_best 5 yX12_best cX12_best 6 (some .int) vI d [vR 0, vI c, vI y, vI w] [vR 57, vI c, vI y, vI w] h := by
  refine SIMC.scr R (c_X11_best (by omega) R.b.ix q1 q2 q3) (fun x f => tX.eq f) (fun x f hx r => ?_)
  refine ⟨_, _, c_X12_best (by omega) r.b.im q1 q2 q3, ?_, fun x2 f2 => tM.eq f2⟩
  obtain ⟨⟨a1, a2, a3, a4, a5⟩, ⟨b1, b2', b3, b4⟩, ⟨c1, c2⟩, ⟨d1, d2, d3, d4, d5, d6⟩, ix, k1, k2⟩ := r.b
  rw [best_eq, ← c1, ← d1, ← d3, ← d4, ← d5, ← d6, ← b3]
theorem sim_rule {K : KT} {d : Nat} {h : Hp} {b : Int} (hd : 130 ≤ d) (H : HOK h) (R : RLL h h) (q1 : inI b) : SIMC K yX11_rule cX11_rule 2 yX12_rule cX12_rule 4 (some .int) vI d [vR 0, vI b] [vR 57, vI b] h := by
  refine SIMC.scr R (c_X11_rule (by omega) R.b.ix q1) (fun x f => tX.eq f) (fun x f hx r => ?_)
  refine ⟨_, _, c_X12_rule (by omega) r.b.im q1, ?_, fun x2 f2 => tM.eq f2⟩
  obtain ⟨⟨a1, a2, a3, a4, a5⟩, ⟨b1, b2', b3, b4⟩, ⟨c1, c2⟩, ⟨d1, d2, d3, d4, d5, d6⟩, ix, k1, k2⟩ := r.b
  rw [← d1, ← d6, ← b2']
theorem sim_dead {K : KT} {d : Nat} {h : Hp} {a b : Int} (hd : 130 ≤ d) (H : HOK h) (R : RLL h h) (q1 : inI a) (q2 : inI b) : SIMC K yX11_dead cX11_dead 3 yX12_dead cX12_dead 3 (some .int) vI d [vR 0, vI a, vI b] [vR 57, vI a, vI b] h := by
  refine SIMC.scr R (c_X11_dead (by omega) R.b.ix q1 q2) (fun x f => tX.eq f) (fun x f hx r => ?_)
  refine ⟨_, _, c_X12_dead (by omega) r.b.im q1 q2, ?_, fun x2 f2 => tM.eq f2⟩
  obtain ⟨⟨a1, a2, a3, a4, a5⟩, ⟨b1, b2', b3, b4⟩, ⟨c1, c2⟩, ⟨d1, d2, d3, d4, d5, d6⟩, ix, k1, k2⟩ := r.b
  rw [← b1, ← b3]
theorem sim_needed {K : KT} {d : Nat} {h : Hp} {a : Int} (hd : 130 ≤ d) (H : HOK h) (R : RLL h h) (q1 : inI a) : SIMC K yX11_needed cX11_needed 6 yX12_needed cX12_needed 11 (some .int) vI d [vR 0, vI a] [vR 57, vI a] h := by
  refine SIMC.scr R (c_X11_needed (by omega) R.b.ix R.b.p1 q1) (fun x f => tX.ex f k36) (fun x f hx r => ?_)
  refine ⟨_, _, c_X12_needed (by omega) r.b.im q1, ?_, fun x2 f2 => tM.scr f2 rfl⟩
  have p2 : prX h 2 = prM x 2 := r.b.pr 2
  have sp := r.b.sp
  have b1 := r.b.2.1.1
  have b3 := r.b.2.1.2.2.1
  have ix := R.b.ix
  rw [← p2, ← sp, ← b1, ← b3]
  by_cases z : ¬ (0 ≤ a ∧ a < h 6 3)
  · rw [if_pos z, if_pos z]
  · rw [if_neg z, if_neg z]
    by_cases y : h 8 a.toNat = 0 ∨ (prX h 2).1 = 0
    · rw [if_pos y, if_pos (Or.symm y)]
    · rw [if_neg y, if_neg (fun w => y (Or.symm w))]
      have sq : 0 < h 8 a.toNat * h 8 a.toNat := by
        rcases Int.lt_or_lt_of_ne (show h 8 a.toNat ≠ 0 from fun w => y (Or.inl w)) with w | w
        · exact Int.mul_pos_of_neg_of_neg w w
        · exact Int.mul_pos w w
      have si := spF_in ix R.b.p1 (fun w => y (Or.inr w))
      exact needed_eq sq (by omega)
theorem sim_trace {K : KT} {d : Nat} {h : Hp} {a : Int} (hd : 130 ≤ d) (H : HOK h) (R : RLL h h) (q1 : inI a) : SIMC K yX11_trace cX11_trace 2 yX12_trace cX12_trace 2 (some .int) vI d [vR 0, vI a] [vR 57, vI a] h := by
  refine SIMC.scr R (c_X11_trace (by omega) R.f.2.2.2.2.2.2.1 q1) (fun x f => tX.eq f) (fun x f hx r => ?_)
  refine ⟨_, _, c_X12_trace q1, ?_, fun x2 f2 => tM.eq f2⟩
  obtain ⟨f1, f2', f3, f4, f5, f6, f7, f8⟩ := r.f
  rw [f6, f8]
theorem why_rel {nb : Int} {g h : Hp} (R : RlG nb g h) (a b : Int) : (whyX (g 47) (g 49) a b = 0 ∧ whyM (h 86) (h 88) a b = 1) ∨ (whyX (g 47) (g 49) a b ≠ 0 ∧ whyM (h 86) (h 88) a b ≠ 1 ∧ whyX (g 47) (g 49) a b = whyM (h 86) (h 88) a b) := by
  unfold whyX whyM
  by_cases z : ¬ (0 ≤ a ∧ a < 6)
  · rw [if_pos z, if_pos z]
    exact Or.inr ⟨by decide, by decide, rfl⟩
  · rw [if_neg z, if_neg z]
    have q := R.2.2.2.1 a.toNat (by omega)
    unfold RlS at q
    rcases q with ⟨q1, q2⟩ | ⟨q1, q2, _, _⟩ | ⟨q1, q2, q3, q4⟩
    · rw [if_pos q1, if_pos q2]
      exact Or.inr ⟨by decide, by decide, rfl⟩
    · have n6 : ¬ g 47 a.toNat = 6 := by omega
      have m2 : ¬ h 86 a.toNat = -2 := by omega
      rw [if_neg n6, if_pos q1, if_neg m2, if_pos q2]
      exact Or.inr ⟨by decide, by decide, rfl⟩
    · have n6 : ¬ g 47 a.toNat = 6 := by omega
      have n5 : ¬ g 47 a.toNat = 5 := by omega
      have m2 : ¬ h 86 a.toNat = -2 := by omega
      have m1 : ¬ h 86 a.toNat = -1 := by omega
      rw [if_neg n6, if_neg n5, if_neg m2, if_neg m1, q4]
      by_cases y : 0 ≤ b ∧ b + 1 ≤ h 88 a.toNat
      · rw [if_pos y, if_pos (by omega)]
        exact Or.inl ⟨rfl, rfl⟩
      · rw [if_neg y, if_neg (by omega)]
        exact Or.inr ⟨by decide, by decide, rfl⟩
theorem el_eq {nb : Int} {g h : Hp} (R : RlG nb g h) {a b : Int} (z : whyX (g 47) (g 49) a b = 0) : g (51 + a.toNat) b.toNat = h 89 (60 * a + b).toNat := by
  have q := whyX_0 R.1 z
  rw [R.2.2.2.2 a.toNat b.toNat (by omega) (by omega)]
  congr 1
  omega
theorem sim_element {K : KT} {d : Nat} {h : Hp} {a b : Int} (hd : 130 ≤ d) (H : HOK h) (R : RLL h h) (q1 : inI a) (q2 : inI b) : SIMC K yX11_element cX11_element 3 yX12_element cX12_element 3 (some .long) vL d [vR 0, vI a, vI b] [vR 57, vI a, vI b] h := by
  refine SIMC.scr R (c_X11_element (by omega) R.g.1 q1 q2) (fun x f => tX.eq f) (fun x f hx r => ?_)
  refine ⟨_, _, c_X12_element (by omega) r.g.2.1 q1 q2, ?_, fun x2 f2 => tM.eq f2⟩
  rcases why_rel r.g a b with ⟨z1, z2⟩ | ⟨z1, z2, _⟩
  · rw [if_pos z1, if_pos z2, el_eq r.g z1]
  · rw [if_neg z1, if_neg z2]
theorem sim_taken {K : KT} {d : Nat} {h : Hp} {a b : Int} (hd : 130 ≤ d) (H : HOK h) (R : RLL h h) (q1 : inI a) (q2 : inI b) : SIMC K yX11_taken cX11_taken 4 yX12_taken cX12_taken 5 (some .int) vI d [vR 0, vI a, vI b] [vR 57, vI a, vI b] h := by
  refine SIMC.scr R (c_X11_taken (by omega) R.f.2.2.1 R.f.2.2.2.2.1 q1 q2) (fun x f => tX.eq f) (fun x f hx r => ?_)
  obtain ⟨f1, f2', f3, f4, f5, f6, f7, f8⟩ := r.f
  have m0 : x 57 52 ≤ 50 := by omega
  have m1 : ∀ k : Nat, (k : Int) < x 57 52 → 0 ≤ x 84 k ∧ x 84 k ≤ 7 := by
    rw [← f1, ← f4]
    exact f5
  have m2 : 0 ≤ a → a < 6 → x 86 a.toNat = -1 ∨ x 86 a.toNat < -2 → 0 ≤ x 87 a.toNat ∧ x 87 a.toNat < x 57 52 := fun z1 z2 z3 => by
    have q := r.g.2.2.2.1 a.toNat (by omega)
    rw [← r.g.2.2.1, ← f1]
    unfold RlS at q
    omega
  refine ⟨_, _, c_X12_taken (by omega) m0 m1 m2 q1 q2, ?_, fun x2 f2 => tM.eq f2⟩
  by_cases z : ¬ (0 ≤ a ∧ a < 6) ∨ ¬ (0 ≤ b ∧ b ≤ 7)
  · rw [if_pos z, if_pos z]
  · rw [if_neg z, if_neg z]
    have q := r.g.2.2.2.1 a.toNat (by omega)
    have g3 := r.g.2.2.1
    unfold RlS at q
    rw [← g3, ← f4]
    rcases q with ⟨u1, u2⟩ | ⟨u1, u2, u3, u4⟩ | ⟨u1, u2, u3, u4⟩
    · rw [if_pos u1, if_pos u2]
    · have n6 : ¬ h 47 a.toNat = 6 := by omega
      have m2 : ¬ x 86 a.toNat = -2 := by omega
      have m0 : ¬ 0 ≤ x 86 a.toNat := by omega
      rw [if_neg m2, if_neg m0, if_neg n6]
      have kk := f5 (h 48 a.toNat).toNat (by omega)
      rw [← tk_eq kk.1 kk.2 (show 0 ≤ b by omega) (show b ≤ 7 by omega)]
      by_cases w : iuF 8 (h 44 (h 48 a.toNat).toNat) b = b
      · rw [if_pos w, if_pos ⟨u1, ⟨u3, u4⟩, w⟩]
      · rw [if_neg w, if_neg (fun y => w y.2.2)]
    · have n6 : ¬ h 47 a.toNat = 6 := by omega
      have m2 : ¬ x 86 a.toNat = -2 := by omega
      have m0 : 0 ≤ x 86 a.toNat := by omega
      rw [if_neg m2, if_pos m0, if_neg n6, if_neg (fun w => absurd w.1 (by omega))]
theorem sim_count {K : KT} {d : Nat} {h : Hp} {a : Int} (hd : 130 ≤ d) (H : HOK h) (R : RLL h h) (q1 : inI a) : SIMC K yX11_count cX11_count 2 yX12_count cX12_count 2 (some .int) vI d [vR 0, vI a] [vR 57, vI a] h := by
  refine SIMC.scr R (c_X11_count q1) (fun x f => tX.eq f) (fun x f hx r => ?_)
  refine ⟨_, _, c_X12_count q1, ?_, fun x2 f2 => tM.eq f2⟩
  obtain ⟨e1, -⟩ := r.e
  obtain ⟨f1, f2', f3, f4, f5, f6, f7, f8⟩ := r.f
  obtain ⟨g1, g2, g3, g4, g5, -⟩ := r.d
  obtain ⟨⟨a1, a2, a3, a4, a5⟩, ⟨b1, b2', b3, b4⟩, ⟨c1, c2⟩, ⟨d1, d2, d3, d4, d5, d6⟩, ix, k1, k2⟩ := r.b
  rw [← a1, ← b1, ← c1, ← d1, ← g1, ← g5, ← e1, ← r.c.1, ← f1, ← f6]
