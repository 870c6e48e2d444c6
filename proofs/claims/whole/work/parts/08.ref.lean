/-! the reference: changed, beside, gains -/
/-- the same but where P says so -/
def EP (P : Nat → Nat → Bool) (h h' : Hp) : Prop := ∀ k j : Nat, P k j = false → h' k j = h k j
theorem EP.rf {P : Nat → Nat → Bool} {h : Hp} : EP P h h := fun _ _ _ => rfl
theorem EP.tr {P : Nat → Nat → Bool} {h h1 h2 : Hp} (a : EP P h h1) (b : EP P h1 h2) : EP P h h2 := fun k j z => (b k j z).trans (a k j z)
theorem EP.st {P : Nat → Nat → Bool} {h h1 : Hp} {k j : Nat} {v : Int} (a : EP P h h1) (hk : P k j = true) : EP P h (hset h1 k j v) := fun x y z => by
  have n : ¬ (x = k ∧ y = j) := by
    rintro ⟨rfl, rfl⟩
    rw [hk] at z
    cases z
  rw [hset_app, if_neg n]
  exact a x y z
theorem EP.row {P : Nat → Nat → Bool} {h h1 : Hp} (a : EP P h h1) (k : Nat) (hk : ∀ j, P k j = false) : h1 k = h k := funext fun j => a k j (hk j)
/-- the reference's scratch: depth, pairs .. unseens; stack, hidden, moved -/
def mscr (k j : Nat) : Bool := (k == 57 && (decide (38 ≤ j) && decide (j ≤ 45))) || k == 80 || k == 81 || k == 90
theorem IMa.ep {h h1 : Hp} (hI : IMa h) (e : EP mscr h h1) : IMa h1 := by
  unfold IMa
  rw [e.row 58 (fun _ => rfl), e.row 59 (fun _ => rfl), e.row 60 (fun _ => rfl), e.row 61 (fun _ => rfl), e.row 62 (fun _ => rfl), e.row 63 (fun _ => rfl), e.row 64 (fun _ => rfl), e.row 65 (fun _ => rfl), e.row 66 (fun _ => rfl), e.row 67 (fun _ => rfl), e.row 68 (fun _ => rfl), e.row 69 (fun _ => rfl), e.row 70 (fun _ => rfl), e 57 13 rfl, e 57 14 rfl, e 57 15 rfl, e 57 16 rfl]
  exact hI
/-- is the run a ahead of b, of one runner -/
abbrev aheadI (ye : Nat → Int) (a b : Int) : Prop := ye a.toNat < ye b.toNat ∨ ye a.toNat = ye b.toNat ∧ a < b
def nextS (who ye : Nat → Int) (run : Int) (r : Nat) (nx : Int) : Int := if who r = who run.toNat ∧ aheadI ye run r ∧ (nx < 0 ∨ aheadI ye r nx) then (r : Int) else nx
theorem nextS_in {who ye : Nat → Int} {run nx : Int} {k : Nat} (h : nx = -1 ∨ 0 ≤ nx ∧ nx < k) : nextS who ye run k nx = -1 ∨ 0 ≤ nextS who ye run k nx ∧ nextS who ye run k nx < k + 1 := by unfold nextS; split <;> omega
def nextF (n : Int) (who ye : Nat → Int) (run : Int) : Int := lp (nextS who ye run) n.toNat 0 (-1)
theorem nextL_in (who ye : Nat → Int) (run : Int) : ∀ (n k : Nat) (nx : Int), (nx = -1 ∨ 0 ≤ nx ∧ nx < k) → lp (nextS who ye run) n k nx = -1 ∨ 0 ≤ lp (nextS who ye run) n k nx ∧ lp (nextS who ye run) n k nx < k + n
  | 0, k, nx, h => by unfold lp; omega
  | n + 1, k, nx, h => by
    unfold lp
    have := nextL_in who ye run n (k + 1) (nextS who ye run k nx) (by have := nextS_in (who := who) (ye := ye) (run := run) h; omega)
    omega
theorem nextF_in (n : Int) (who ye : Nat → Int) (run : Int) (hn : 0 ≤ n) : nextF n who ye run = -1 ∨ 0 ≤ nextF n who ye run ∧ nextF n who ye run < n := by
  have := nextL_in who ye run n.toNat 0 (-1) (Or.inl rfl)
  unfold nextF
  omega
set_option maxRecDepth 100000 in
set_option maxHeartbeats 4000000 in
theorem lp_X12_nextOf {K : KT} {X : XT} {dep : Nat} {h : Hp} {a : Int} (hI : IMa h) (q0 : 0 ≤ a ∧ a < h 57 16) (hd : 1 ≤ dep) : ∀ (n k : Nat) (acc : Int), (k : Int) + n = h 57 16 → acc = -1 ∨ 0 ≤ acc ∧ acc < k → AW K X RX12 cX12_nextOf 4 (some .int) dep 57 [some (vR 57), some (vI (a)), some (vI ((lp (nextS (h 66) (h 68) a) n k acc))), none] [] h → AW K X RX12 cX12_nextOf 4 (some .int) dep 4 [some (vR 57), some (vI (a)), some (vI (acc)), some (vI ((k : Int)))] [] h := by
  have g6 := hI.2.2.2.1
  have g7 := hI.2.2.2.2.1
  have g8 := hI.2.1.2.1
  intro n
  induction n with
  | zero =>
    intro k acc hk i0 kk
    refine AW.iload_n (pc' := 5) dX12_nextOf_4 rfl ?_
    refine AW.aload_n (pc' := 6) dX12_nextOf_5 rfl ?_
    refine AW.getI (pc' := 9) dX12_nextOf_6 ly_57 fX12_128 rfl (fun r6 => ?_)
    refine AW.icmp_ge (tgt := 57) (pc' := 12) dX12_nextOf_9 (by first | assumption | omega | (constructor <;> omega) | (simp only [Int.toNat_natCast]; omega) | exact b2_in _) (by first | assumption | omega | (constructor <;> omega) | (simp only [Int.toNat_natCast]; omega) | exact b2_in _) (fun c9 => ?_) (fun c9 => ?_)
    · exact AW.weak kk (by (repeat' first | exact LSub.e | refine LSub.n ?_ | refine LSub.c ?_ ?_) <;> first | rfl | exact congrArg Sum.inl (by first | rfl | omega | omega))
    · omega
  | succ n ih =>
    intro k acc hk i0 kk
    have hkr : ((k : Nat) : Int) < h 57 16 := by omega
    refine AW.iload_n (pc' := 5) dX12_nextOf_4 rfl ?_
    refine AW.aload_n (pc' := 6) dX12_nextOf_5 rfl ?_
    refine AW.getI (pc' := 9) dX12_nextOf_6 ly_57 fX12_128 rfl (fun r6 => ?_)
    refine AW.icmp_ge (tgt := 57) (pc' := 12) dX12_nextOf_9 (by first | assumption | omega | (constructor <;> omega) | (simp only [Int.toNat_natCast]; omega) | exact b2_in _) (by first | assumption | omega | (constructor <;> omega) | (simp only [Int.toNat_natCast]; omega) | exact b2_in _) (fun c9 => ?_) (fun c9 => ?_)
    · omega
    · refine AW.aload_n (pc' := 13) dX12_nextOf_12 rfl ?_
      refine AW.getR (pc' := 16) dX12_nextOf_13 ly_57 fX12_34 rfl ?_
      refine AW.iload_n (pc' := 17) dX12_nextOf_16 rfl ?_
      first | refine AW.ialdN (pc' := 18) dX12_nextOf_17 ly_66 (by first | assumption | omega | (constructor <;> omega) | (simp only [Int.toNat_natCast]; omega) | exact b2_in _) (by decide) (fun r17 => ?_) | refine AW.iald (pc' := 18) dX12_nextOf_17 ly_66 (by first | assumption | omega | (constructor <;> omega) | (simp only [Int.toNat_natCast]; omega) | exact b2_in _) (by first | assumption | omega | (constructor <;> omega) | (simp only [Int.toNat_natCast]; omega) | exact b2_in _) (by decide) (fun r17 => ?_)
      refine AW.aload_n (pc' := 19) dX12_nextOf_18 rfl ?_
      refine AW.getR (pc' := 22) dX12_nextOf_19 ly_57 fX12_34 rfl ?_
      refine AW.iload_n (pc' := 23) dX12_nextOf_22 rfl ?_
      first | refine AW.ialdN (pc' := 24) dX12_nextOf_23 ly_66 (by first | assumption | omega | (constructor <;> omega) | (simp only [Int.toNat_natCast]; omega) | exact b2_in _) (by decide) (fun r23 => ?_) | refine AW.iald (pc' := 24) dX12_nextOf_23 ly_66 (by first | assumption | omega | (constructor <;> omega) | (simp only [Int.toNat_natCast]; omega) | exact b2_in _) (by first | assumption | omega | (constructor <;> omega) | (simp only [Int.toNat_natCast]; omega) | exact b2_in _) (by decide) (fun r23 => ?_)
      refine AW.icmp_ne (tgt := 51) (pc' := 27) dX12_nextOf_24 (by first | assumption | omega | (constructor <;> omega) | (simp only [Int.toNat_natCast]; omega) | exact b2_in _) (by first | assumption | omega | (constructor <;> omega) | (simp only [Int.toNat_natCast]; omega) | exact b2_in _) (fun c24 => ?_) (fun c24 => ?_)
      · refine AW.iinc3 (pc' := 54) dX12_nextOf_51 (by decide) rfl ?_
        refine AW.goto (tgt := 4) dX12_nextOf_54 ?_
        exact AW.weak (ih (k + 1) ((nextS (h 66) (h 68) a) k acc) (by omega) (by first | omega | (have := nextS_in (who := h 66) (ye := h 68) (run := a) i0; omega)) kk) (by (repeat' first | exact LSub.e | refine LSub.n ?_ | refine LSub.c ?_ ?_) <;> first | rfl | exact congrArg Sum.inl (by first | rfl | omega | (unfold nextS; simp only [aheadI, Int.toNat_natCast] at *; (repeat' split) <;> omega)))
      · refine AW.aload_n (pc' := 28) dX12_nextOf_27 rfl ?_
        refine AW.iload_n (pc' := 29) dX12_nextOf_28 rfl ?_
        refine AW.iload_n (pc' := 30) dX12_nextOf_29 rfl ?_
        refine AW.invV2 (pc' := 33) dX12_nextOf_30 mlX12_149 mX12_isAhead ly_57 rfl (c_X12_isAhead (dep := dep - 1) (by first | assumption | omega | (constructor <;> omega) | (simp only [Int.toNat_natCast]; omega) | exact b2_in _) (by first | assumption | omega | (constructor <;> omega) | (simp only [Int.toNat_natCast]; omega) | exact b2_in _)) ?_
        try simp only [Int.toNat_natCast]
        refine AW.ifb_eq (tgt := 51) (pc' := 36) dX12_nextOf_33 (fun c33 => ?_) (fun c33 => ?_)
        · refine AW.iinc3 (pc' := 54) dX12_nextOf_51 (by decide) rfl ?_
          refine AW.goto (tgt := 4) dX12_nextOf_54 ?_
          exact AW.weak (ih (k + 1) ((nextS (h 66) (h 68) a) k acc) (by omega) (by first | omega | (have := nextS_in (who := h 66) (ye := h 68) (run := a) i0; omega)) kk) (by (repeat' first | exact LSub.e | refine LSub.n ?_ | refine LSub.c ?_ ?_) <;> first | rfl | exact congrArg Sum.inl (by first | rfl | omega | (unfold nextS; simp only [aheadI, Int.toNat_natCast] at *; (repeat' split) <;> omega)))
        · refine AW.iload_n (pc' := 37) dX12_nextOf_36 rfl ?_
          refine AW.if_lt (tgt := 49) (pc' := 40) dX12_nextOf_37 (by first | assumption | omega | (constructor <;> omega) | (simp only [Int.toNat_natCast]; omega) | exact b2_in _) (fun c37 => ?_) (fun c37 => ?_)
          · refine AW.iload_n (pc' := 50) dX12_nextOf_49 rfl ?_
            refine AW.istore2n (pc' := 51) dX12_nextOf_50 (by decide) rfl ?_
            refine AW.iinc3 (pc' := 54) dX12_nextOf_51 (by decide) rfl ?_
            refine AW.goto (tgt := 4) dX12_nextOf_54 ?_
            exact AW.weak (ih (k + 1) ((nextS (h 66) (h 68) a) k acc) (by omega) (by first | omega | (have := nextS_in (who := h 66) (ye := h 68) (run := a) i0; omega)) kk) (by (repeat' first | exact LSub.e | refine LSub.n ?_ | refine LSub.c ?_ ?_) <;> first | rfl | exact congrArg Sum.inl (by first | rfl | omega | (unfold nextS; simp only [aheadI, Int.toNat_natCast] at *; (repeat' split) <;> omega)))
          · refine AW.aload_n (pc' := 41) dX12_nextOf_40 rfl ?_
            refine AW.iload_n (pc' := 42) dX12_nextOf_41 rfl ?_
            refine AW.iload_n (pc' := 43) dX12_nextOf_42 rfl ?_
            refine AW.invV2 (pc' := 46) dX12_nextOf_43 mlX12_149 mX12_isAhead ly_57 rfl (c_X12_isAhead (dep := dep - 1) (by first | assumption | omega | (constructor <;> omega) | (simp only [Int.toNat_natCast]; omega) | exact b2_in _) (by first | assumption | omega | (constructor <;> omega) | (simp only [Int.toNat_natCast]; omega) | exact b2_in _)) ?_
            try simp only [Int.toNat_natCast]
            refine AW.ifb_eq (tgt := 51) (pc' := 49) dX12_nextOf_46 (fun c46 => ?_) (fun c46 => ?_)
            · refine AW.iinc3 (pc' := 54) dX12_nextOf_51 (by decide) rfl ?_
              refine AW.goto (tgt := 4) dX12_nextOf_54 ?_
              exact AW.weak (ih (k + 1) ((nextS (h 66) (h 68) a) k acc) (by omega) (by first | omega | (have := nextS_in (who := h 66) (ye := h 68) (run := a) i0; omega)) kk) (by (repeat' first | exact LSub.e | refine LSub.n ?_ | refine LSub.c ?_ ?_) <;> first | rfl | exact congrArg Sum.inl (by first | rfl | omega | (unfold nextS; simp only [aheadI, Int.toNat_natCast] at *; (repeat' split) <;> omega)))
            · refine AW.iload_n (pc' := 50) dX12_nextOf_49 rfl ?_
              refine AW.istore2n (pc' := 51) dX12_nextOf_50 (by decide) rfl ?_
              refine AW.iinc3 (pc' := 54) dX12_nextOf_51 (by decide) rfl ?_
              refine AW.goto (tgt := 4) dX12_nextOf_54 ?_
              exact AW.weak (ih (k + 1) ((nextS (h 66) (h 68) a) k acc) (by omega) (by first | omega | (have := nextS_in (who := h 66) (ye := h 68) (run := a) i0; omega)) kk) (by (repeat' first | exact LSub.e | refine LSub.n ?_ | refine LSub.c ?_ ?_) <;> first | rfl | exact congrArg Sum.inl (by first | rfl | omega | (unfold nextS; simp only [aheadI, Int.toNat_natCast] at *; (repeat' split) <;> omega)))
set_option maxRecDepth 100000 in
set_option maxHeartbeats 4000000 in
theorem c_X12_nextOf {K : KT} {dep : Nat} {h : Hp} {a : Int} (hd : 1 ≤ dep) (hI : IMa h) (q0 : 0 ≤ a ∧ a < h 57 16) : AM K yX12_nextOf cX12_nextOf 4 (some .int) dep [vR 57, vI a] h (some (vI (nextF (h 57 16) (h 66) (h 68) a))) (h) := by
  refine AM.of (own := RX12) (ls := [some (vR 57), some (vI a), none, none]) rfl (by decide +kernel) (by exact Nat.le_of_ble_eq_true rfl) rfl (fun hO => ?_)
  have g6 := hI.2.2.2.1
  have g7 := hI.2.2.2.2.1
  have g8 := hI.2.1.2.1
  refine AW.iconst (pc' := 1) dX12_nextOf_0 ?_
  refine AW.istore2n (pc' := 2) dX12_nextOf_1 (by decide) rfl ?_
  refine AW.iconst (pc' := 3) dX12_nextOf_2 ?_
  refine AW.istore3n (pc' := 4) dX12_nextOf_3 (by decide) rfl ?_
  refine AW.weak (lp_X12_nextOf hI q0 hd (h 57 16).toNat 0 (-1) (by omega) (Or.inl rfl) ?_) (by (repeat' first | exact LSub.e | refine LSub.n ?_ | refine LSub.c ?_ ?_) <;> first | rfl | exact congrArg Sum.inl (by first | rfl | omega | omega))
  refine AW.iload_n (pc' := 58) dX12_nextOf_57 rfl ?_
  refine AW.iret dX12_nextOf_58 ?_ ?_
  all_goals first | rfl | exact congrArg (fun z : Int => (some (vI z) : Option AV)) (b2_t (by omega)) | exact congrArg (fun z : Int => (some (vI z) : Option AV)) (b2_f (by omega)) | ((repeat' split) <;> first | rfl | omega)
/-- a pair that the run k begins, if it is of that sort: how many, the sum -/
def pairS (nx : Int → Int) (sh gv lv : Nat → Int) (sort : Int) (k : Nat) (s : Int × Int) : Int × Int := if sortM sh gv k (nx k) = sort then (s.1 + 1, s.2 + gainF lv k (nx k).toNat) else s
def pairF (n : Int) (nx : Int → Int) (sh gv lv : Nat → Int) (sort : Int) : Int × Int := lp (pairS nx sh gv lv sort) n.toNat 0 (0, 0)
def meanP (p : Int × Int) : Int := if p.1 = 0 then -2000000000 else p.2.tdiv p.1
def PI (p : Int × Int) (k : Int) : Prop := 0 ≤ p.1 ∧ p.1 ≤ k ∧ -12000000 * p.1 ≤ p.2 ∧ p.2 ≤ 1000 * p.1
theorem meanP_in {p : Int × Int} {k : Int} (h : PI p k) (hk : k ≤ 120) : (p.1 = 0 ∧ meanP p = -2000000000) ∨ (p.1 ≠ 0 ∧ -12000000 ≤ meanP p ∧ meanP p ≤ 1000) := by
  obtain ⟨h1, h2, h3, h4⟩ := h
  unfold meanP
  by_cases z : p.1 = 0
  · rw [if_pos z]; exact Or.inl ⟨z, rfl⟩
  · rw [if_neg z]
    refine Or.inr ⟨z, ?_⟩
    rcases Int.le_total 0 p.2 with y | y
    · rw [Int.tdiv_eq_ediv_of_nonneg y]
      have := Int.ediv_nonneg y h1
      have : p.2 / p.1 ≤ 1000 := Int.ediv_le_of_le_mul (by omega) (by omega)
      omega
    · have e : p.2.tdiv p.1 = -(-p.2 / p.1) := by rw [← Int.tdiv_eq_ediv_of_nonneg (by omega), Int.neg_tdiv, Int.neg_neg]
      rw [e]
      have := Int.ediv_nonneg (by omega : 0 ≤ -p.2) h1
      have : -p.2 / p.1 ≤ 12000000 := Int.ediv_le_of_le_mul (by omega) (by omega)
      omega
theorem gainF_in {n nr nc ns : Int} {ru co ye ti sh hd : Nat → Int} (H : PRuns n nr nc ns ru co ye ti sh) (C : PCou nc hd) {a b : Nat} (ha : (a : Int) < n) (hb : (b : Int) < n) : -12000000 ≤ gainF (lvl ti hd co) a b ∧ gainF (lvl ti hd co) a b ≤ 1000 := by
  obtain ⟨e1, e2, e3, e4⟩ := lvl_in H C ha
  obtain ⟨f1, f2, f3, f4⟩ := lvl_in H C hb
  obtain ⟨g1, g2, g3, g4⟩ := gain_in e3 e4 f3 f4
  exact ⟨g3, g4⟩
abbrev nxM (h : Hp) : Int → Int := nextF (h 57 16) (h 66) (h 68)
abbrev lvM (h : Hp) : Nat → Int := lvl (h 69) (h 65) (h 67)
abbrev psM (h : Hp) (sort : Int) : Nat → Int × Int → Int × Int := pairS (nxM h) (h 70) (h 63) (lvM h) sort
abbrev prM (h : Hp) (sort : Int) : Int × Int := pairF (h 57 16) (nxM h) (h 70) (h 63) (lvM h) sort
theorem psM_in {h : Hp} (hI : IMa h) {sort : Int} {k : Nat} {s : Int × Int} (hk : (k : Int) < h 57 16) (hs : PI s k) : PI (psM h sort k s) (k + 1) := by
  have n1 := nextF_in (h 57 16) (h 66) (h 68) k (by omega)
  have s1 := sortM_in (h 70) (h 63) k (nxM h k)
  have hb : ((nxM h k).toNat : Int) < h 57 16 := by
    show ((nextF (h 57 16) (h 66) (h 68) k).toNat : Int) < _
    omega
  have gg := gainF_in hI.2.2.2 hI.2.2.1 hk hb
  generalize hg : gainF (lvl (h 69) (h 65) (h 67)) k (nxM h k).toNat = gv at gg
  unfold psM pairS
  obtain ⟨i1, i2, i3, i4⟩ := hs
  split
  · refine ⟨?_, ?_, ?_, ?_⟩ <;> (try simp only [lvM, hg]) <;> omega
  · exact ⟨i1, by omega, i3, i4⟩
theorem prM_in {h : Hp} (hI : IMa h) (sort : Int) : PI (prM h sort) (h 57 16) := by
  have key : ∀ (n k : Nat) (s : Int × Int), (k : Int) + n = h 57 16 → PI s k → PI (lp (psM h sort) n k s) (h 57 16) := by
    intro n
    induction n with
    | zero => intro k s hk hs; exact ⟨hs.1, by have := hs.2.1; show s.1 ≤ _; omega, hs.2.2.1, hs.2.2.2⟩
    | succ n ih => intro k s hk hs; unfold lp; exact ih (k + 1) _ (by omega) (psM_in hI (by omega) hs)
  exact key _ 0 (0, 0) (by have := hI.2.2.2.1; omega) ⟨by decide, by decide, by decide, by decide⟩
set_option maxRecDepth 100000 in
set_option maxHeartbeats 4000000 in
theorem lp_X12_findPairs {K : KT} {X : XT} {dep : Nat} {h : Hp} {a : Int} (hI : IMa h) (qa : 0 ≤ a ∧ a ≤ 3) (hd : 2 ≤ dep) : ∀ (n k : Nat) (s : Int × Int) (h1 : Hp), (k : Int) + n = h 57 16 → EP mscr h h1 → h1 57 39 = s.1 ∧ h1 57 40 = s.2 → PI s k → (∀ h2 : Hp, EP mscr h h2 → h2 57 39 = (lp (psM h a) n k s).1 ∧ h2 57 40 = (lp (psM h a) n k s).2 → AW K X RX12 cX12_findPairs 4 none dep 70 [some (vR 57), some (vI (a)), none, none] [] h2) → AW K X RX12 cX12_findPairs 4 none dep 12 [some (vR 57), some (vI (a)), some (vI ((k : Int))), none] [] h1 := by
  have g6 := hI.2.2.2.1
  have g7 := hI.2.2.2.2.1
  have g8 := hI.2.1.2.1
  intro n
  induction n with
  | zero =>
    intro k s h1 hk e1 t1 i0 kk
    have w13 : h1 57 16 = h 57 16 := e1 57 16 rfl
    have w66 := e1.row 66 (fun _ => rfl)
    have w68 := e1.row 68 (fun _ => rfl)
    have w69 := e1.row 69 (fun _ => rfl)
    have w70 := e1.row 70 (fun _ => rfl)
    have w67 := e1.row 67 (fun _ => rfl)
    have w65 := e1.row 65 (fun _ => rfl)
    have w63 := e1.row 63 (fun _ => rfl)
    have w15 : h1 57 15 = h 57 15 := e1 57 15 rfl
    have w14 : h1 57 13 = h 57 13 := e1 57 13 rfl
    have hI_w := hI.ep e1
    refine AW.iload_n (pc' := 13) dX12_findPairs_12 rfl ?_
    refine AW.aload_n (pc' := 14) dX12_findPairs_13 rfl ?_
    refine AW.getI (pc' := 17) dX12_findPairs_14 ly_57 fX12_128 rfl (fun r14 => ?_)
    refine AW.icmp_ge (tgt := 70) (pc' := 20) dX12_findPairs_17 (by first | assumption | omega | (constructor <;> omega) | (simp only [Int.toNat_natCast]; omega) | exact b2_in _) (by first | assumption | omega | (constructor <;> omega) | (simp only [Int.toNat_natCast]; omega) | exact b2_in _) (fun c17 => ?_) (fun c17 => ?_)
    · exact AW.weak (kk h1 e1 t1) (by (repeat' first | exact LSub.e | refine LSub.n ?_ | refine LSub.c ?_ ?_) <;> first | rfl | exact congrArg Sum.inl (by first | rfl | omega | omega))
    · omega
  | succ n ih =>
    intro k s h1 hk e1 t1 i0 kk
    have w13 : h1 57 16 = h 57 16 := e1 57 16 rfl
    have w66 := e1.row 66 (fun _ => rfl)
    have w68 := e1.row 68 (fun _ => rfl)
    have w69 := e1.row 69 (fun _ => rfl)
    have w70 := e1.row 70 (fun _ => rfl)
    have w67 := e1.row 67 (fun _ => rfl)
    have w65 := e1.row 65 (fun _ => rfl)
    have w63 := e1.row 63 (fun _ => rfl)
    have w15 : h1 57 15 = h 57 15 := e1 57 15 rfl
    have w14 : h1 57 13 = h 57 13 := e1 57 13 rfl
    have hI_w := hI.ep e1
    have hkr : (k : Int) < h 57 16 := by omega
    have n1 := nextF_in (h 57 16) (h 66) (h 68) k (by omega)
    have s1 := sortM_in (h 70) (h 63) k (nxM h k)
    have i1 := psM_in hI (sort := a) hkr i0
    simp only [nxM, lvM] at n1 s1
    unfold PI at i0
    refine AW.iload_n (pc' := 13) dX12_findPairs_12 rfl ?_
    refine AW.aload_n (pc' := 14) dX12_findPairs_13 rfl ?_
    refine AW.getI (pc' := 17) dX12_findPairs_14 ly_57 fX12_128 rfl (fun r14 => ?_)
    try simp only [w13, w66, w68, w69, w70, w67, w65, w63, w15, w14] at r14 ⊢
    refine AW.icmp_ge (tgt := 70) (pc' := 20) dX12_findPairs_17 (by first | assumption | omega | (constructor <;> omega) | (simp only [Int.toNat_natCast]; omega) | exact b2_in _) (by first | assumption | omega | (constructor <;> omega) | (simp only [Int.toNat_natCast]; omega) | exact b2_in _) (fun c17 => ?_) (fun c17 => ?_)
    · omega
    · refine AW.aload_n (pc' := 21) dX12_findPairs_20 rfl ?_
      refine AW.iload_n (pc' := 22) dX12_findPairs_21 rfl ?_
      refine AW.invV1 (pc' := 25) dX12_findPairs_22 mlX12_265 mX12_nextOf ly_57 rfl (c_X12_nextOf (dep := dep - 1) (by first | assumption | omega | (constructor <;> omega) | (simp only [Int.toNat_natCast]; omega) | exact b2_in _) (by first | assumption | omega | (constructor <;> omega) | (simp only [Int.toNat_natCast]; omega) | exact b2_in _) (by first | assumption | omega | (constructor <;> omega) | (simp only [Int.toNat_natCast]; omega) | exact b2_in _)) ?_
      try simp only [Int.toNat_natCast, w13, w66, w68, w69, w70, w67, w65, w63, w15, w14]
      refine AW.istore3n (pc' := 26) dX12_findPairs_25 (by decide) rfl ?_
      refine AW.aload_n (pc' := 27) dX12_findPairs_26 rfl ?_
      refine AW.iload_n (pc' := 28) dX12_findPairs_27 rfl ?_
      refine AW.iload_n (pc' := 29) dX12_findPairs_28 rfl ?_
      refine AW.invV2 (pc' := 32) dX12_findPairs_29 mlX12_268 mX12_sortOf ly_57 rfl (c_X12_sortOf (dep := dep - 1) (by first | assumption | omega | (constructor <;> omega) | (simp only [Int.toNat_natCast]; omega) | exact b2_in _) (by first | assumption | omega | (constructor <;> omega) | (simp only [Int.toNat_natCast]; omega) | exact b2_in _) (by first | assumption | omega | (constructor <;> omega) | (simp only [Int.toNat_natCast]; omega) | exact b2_in _) (by first | assumption | omega | (constructor <;> omega) | (simp only [Int.toNat_natCast]; omega) | exact b2_in _)) ?_
      try simp only [Int.toNat_natCast, w13, w66, w68, w69, w70, w67, w65, w63, w15, w14]
      refine AW.iload_n (pc' := 33) dX12_findPairs_32 rfl ?_
      refine AW.icmp_eq (tgt := 39) (pc' := 36) dX12_findPairs_33 (by first | assumption | omega | (constructor <;> omega) | (simp only [Int.toNat_natCast]; omega) | exact b2_in _) (by first | assumption | omega | (constructor <;> omega) | (simp only [Int.toNat_natCast]; omega) | exact b2_in _) (fun c33 => ?_) (fun c33 => ?_)
      · refine AW.aload_n (pc' := 40) dX12_findPairs_39 rfl ?_
        refine AW.dup (pc' := 41) dX12_findPairs_40 rfl ?_
        refine AW.getI (pc' := 44) dX12_findPairs_41 ly_57 fX12_259 rfl (fun r41 => ?_)
        try simp only [w13, w66, w68, w69, w70, w67, w65, w63, w15, w14] at r41 ⊢
        refine AW.iconst (pc' := 45) dX12_findPairs_44 ?_
        refine AW.iadd (pc' := 46) dX12_findPairs_45 ?_
        refine AW.putI (pc' := 49) dX12_findPairs_46 ly_57 pX12_259 rfl (by first | assumption | omega | (constructor <;> omega) | (simp only [Int.toNat_natCast]; omega) | exact b2_in _) ?_
        refine AW.aload_n (pc' := 50) dX12_findPairs_49 rfl ?_
        refine AW.dup (pc' := 51) dX12_findPairs_50 rfl ?_
        obtain ⟨h3, gh3⟩ : ∃ z, z = hset h1 57 39 (h1 57 39 + 1) := ⟨_, rfl⟩
        rw [← gh3]
        have eh3 : EP mscr h h3 := by rw [gh3]; exact (e1).st rfl
        have fh3_0 : h3 57 39 = s.1 + 1 := by rw [gh3]; simp only [hset_app, Nat.reduceEqDiff, and_false, true_and, and_true, false_and, reduceIte]; omega
        have fh3_1 : h3 57 40 = s.2 := by rw [gh3]; simp only [hset_app, Nat.reduceEqDiff, and_false, true_and, and_true, false_and, reduceIte]; omega
        have w13 : h3 57 16 = h 57 16 := eh3 57 16 rfl
        have w66 := eh3.row 66 (fun _ => rfl)
        have w68 := eh3.row 68 (fun _ => rfl)
        have w69 := eh3.row 69 (fun _ => rfl)
        have w70 := eh3.row 70 (fun _ => rfl)
        have w67 := eh3.row 67 (fun _ => rfl)
        have w65 := eh3.row 65 (fun _ => rfl)
        have w63 := eh3.row 63 (fun _ => rfl)
        have w15 : h3 57 15 = h 57 15 := eh3 57 15 rfl
        have w14 : h3 57 13 = h 57 13 := eh3 57 13 rfl
        have hI_w := hI.ep eh3
        have n2 : 0 ≤ nxM h k ∧ nxM h k < h 57 16 := by
          simp only [nxM]
          rcases n1 with z | z
          · exfalso
            have : sortM (h 70) (h 63) k (nxM h k) = -1 := by unfold sortM; rw [if_pos (by left; show nextF (h 57 16) (h 66) (h 68) k < 0; omega)]
            simp only [nxM] at this
            omega
          · exact z
        have gg := gainF_in hI.2.2.2 hI.2.2.1 hkr (b := (nxM h k).toNat) (by simp only [nxM] at n2 ⊢; omega)
        simp only [nxM, lvM] at n2 gg
        refine AW.getI (pc' := 54) dX12_findPairs_51 ly_57 fX12_262 rfl (fun r51 => ?_)
        try simp only [w13, w66, w68, w69, w70, w67, w65, w63, w15, w14] at r51 ⊢
        try simp only [hset_app, Nat.reduceEqDiff, false_and, and_false, true_and, and_true, reduceIte] at r51 ⊢
        refine AW.aload_n (pc' := 55) dX12_findPairs_54 rfl ?_
        refine AW.iload_n (pc' := 56) dX12_findPairs_55 rfl ?_
        refine AW.iload_n (pc' := 57) dX12_findPairs_56 rfl ?_
        refine AW.invV2 (pc' := 60) dX12_findPairs_57 mlX12_271 mX12_gained ly_57 rfl (c_X12_gained (dep := dep - 1) (by first | assumption | omega | (constructor <;> omega) | (simp only [Int.toNat_natCast]; omega) | exact b2_in _) (by first | assumption | omega | (constructor <;> omega) | (simp only [Int.toNat_natCast]; omega) | exact b2_in _) (by first | assumption | omega | (constructor <;> omega) | (simp only [Int.toNat_natCast]; omega) | exact b2_in _) (by first | assumption | omega | (constructor <;> omega) | (simp only [Int.toNat_natCast]; omega) | exact b2_in _)) ?_
        try simp only [Int.toNat_natCast, w13, w66, w68, w69, w70, w67, w65, w63, w15, w14]
        refine AW.iadd (pc' := 61) dX12_findPairs_60 ?_
        refine AW.putI (pc' := 64) dX12_findPairs_61 ly_57 pX12_262 rfl (by first | assumption | omega | (constructor <;> omega) | (simp only [Int.toNat_natCast]; omega) | exact b2_in _) ?_
        refine AW.iinc2 (pc' := 67) dX12_findPairs_64 (by decide) rfl ?_
        refine AW.goto (tgt := 12) dX12_findPairs_67 ?_
        have z : psM h a k s = (s.1 + 1, s.2 + gainF (lvM h) k (nxM h k).toNat) := by
          unfold psM pairS
          rw [if_pos (by first | exact c33 | (simp only [nxM]; exact c33))]
        refine AW.weak (ih (k + 1) (psM h a k s) _ (by omega) (eh3.st rfl) (by rw [z]; simp only [hset_app, Nat.reduceEqDiff, and_false, true_and, and_true, false_and, reduceIte, nxM, lvM]; omega) i1 kk) (by (repeat' first | exact LSub.e | refine LSub.n ?_ | refine LSub.c ?_ ?_) <;> first | rfl | exact congrArg Sum.inl (by first | rfl | omega | omega))
      · refine AW.goto (tgt := 64) dX12_findPairs_36 ?_
        refine AW.iinc2 (pc' := 67) dX12_findPairs_64 (by decide) rfl ?_
        refine AW.goto (tgt := 12) dX12_findPairs_67 ?_
        have z : psM h a k s = s := by
          unfold psM pairS
          rw [if_neg (by first | exact c33 | (simp only [nxM]; exact c33))]
        refine AW.weak (ih (k + 1) s _ (by omega) e1 t1 (by rw [z] at i1; exact i1) (by rw [← z]; exact kk)) (by (repeat' first | exact LSub.e | refine LSub.n ?_ | refine LSub.c ?_ ?_) <;> first | rfl | exact congrArg Sum.inl (by first | rfl | omega | omega))
set_option maxRecDepth 100000 in
set_option maxHeartbeats 4000000 in
theorem c_X12_findPairs {K : KT} {dep : Nat} {h : Hp} {a : Int} (hd : 2 ≤ dep) (hI : IMa h) (qa : 0 ≤ a ∧ a ≤ 3) : AMp K yX12_findPairs cX12_findPairs 4 none dep [vR 57, vI a] h none (fun x => EP mscr h x ∧ x 57 39 = (prM h a).1 ∧ x 57 40 = (prM h a).2) := by
  refine AM.of (own := RX12) (ls := [some (vR 57), some (vI a), none, none]) rfl (by decide +kernel) (by exact Nat.le_of_ble_eq_true rfl) rfl (fun hO => ?_)
  have g6 := hI.2.2.2.1
  have g7 := hI.2.2.2.2.1
  have g8 := hI.2.1.2.1
  refine AW.aload_n (pc' := 1) dX12_findPairs_0 rfl ?_
  refine AW.iconst (pc' := 2) dX12_findPairs_1 ?_
  refine AW.putI (pc' := 5) dX12_findPairs_2 ly_57 pX12_259 rfl (by first | assumption | omega | (constructor <;> omega) | (simp only [Int.toNat_natCast]; omega) | exact b2_in _) ?_
  refine AW.aload_n (pc' := 6) dX12_findPairs_5 rfl ?_
  refine AW.iconst (pc' := 7) dX12_findPairs_6 ?_
  refine AW.putI (pc' := 10) dX12_findPairs_7 ly_57 pX12_262 rfl (by first | assumption | omega | (constructor <;> omega) | (simp only [Int.toNat_natCast]; omega) | exact b2_in _) ?_
  refine AW.iconst (pc' := 11) dX12_findPairs_10 ?_
  refine AW.istore2n (pc' := 12) dX12_findPairs_11 (by decide) rfl ?_
  refine AW.weak (lp_X12_findPairs hI qa hd (h 57 16).toNat 0 (0, 0) _ (by omega) ((EP.rf.st rfl).st rfl) ⟨by simp only [hset_app, Nat.reduceEqDiff, and_false, true_and, and_true, false_and, reduceIte], by simp only [hset_app, Nat.reduceEqDiff, and_false, true_and, and_true, false_and, reduceIte]⟩ ⟨by decide, by decide, by decide, by decide⟩ (fun h2 e2 t2 => ?_)) (by (repeat' first | exact LSub.e | refine LSub.n ?_ | refine LSub.c ?_ ?_) <;> first | rfl | exact congrArg Sum.inl (by first | rfl | omega | omega))
  refine AW.vret dX12_findPairs_70 ?_ ?_
  · rfl
  · exact ⟨e2, t2⟩
theorem prM_ep {h h1 : Hp} (e : EP mscr h h1) (a : Int) : prM h1 a = prM h a := by
  simp only [prM, nxM, lvM]
  rw [e.row 66 (fun _ => rfl), e.row 68 (fun _ => rfl), e.row 69 (fun _ => rfl), e.row 70 (fun _ => rfl), e.row 67 (fun _ => rfl), e.row 65 (fun _ => rfl), e.row 63 (fun _ => rfl), e 57 16 rfl]
def lessV (a b : Int) : Int := if a = -2000000000 ∨ b = -2000000000 then -2000000000 else a - b
set_option maxRecDepth 100000 in
set_option maxHeartbeats 4000000 in
theorem c_X12_meanOf {K : KT} {dep : Nat} {h : Hp} {a : Int} (hd : 3 ≤ dep) (hI : IMa h) (qa : 0 ≤ a ∧ a ≤ 3) : AMp K yX12_meanOf cX12_meanOf 2 (some .int) dep [vR 57, vI a] h (some (vI (meanP (prM h a)))) (fun x => EP mscr h x ∧ x 57 39 = (prM h a).1) := by
  refine AM.of (own := RX12) (ls := [some (vR 57), some (vI a)]) rfl (by decide +kernel) (by exact Nat.le_of_ble_eq_true rfl) rfl (fun hO => ?_)
  have g6 := hI.2.2.2.1
  have g7 := hI.2.2.2.2.1
  have g8 := hI.2.1.2.1
  refine AW.aload_n (pc' := 1) dX12_meanOf_0 rfl ?_
  refine AW.iload_n (pc' := 2) dX12_meanOf_1 rfl ?_
  refine AW.invQ1v (pc' := 5) dX12_meanOf_2 mlX12_274 mX12_findPairs ly_57 rfl (c_X12_findPairs (dep := dep - 1) (by first | assumption | omega | (constructor <;> omega) | (simp only [Int.toNat_natCast]; omega) | exact b2_in _) (by first | assumption | omega | (constructor <;> omega) | (simp only [Int.toNat_natCast]; omega) | exact b2_in _) (by first | assumption | omega | (constructor <;> omega) | (simp only [Int.toNat_natCast]; omega) | exact b2_in _)) (fun h2 s2 => ?_)
  obtain ⟨e2, t2, u2⟩ := s2
  have pin2 := prM_in hI a
  have mp2 := meanP_in pin2 g7
  have p12 := pin2.1
  have p22 := pin2.2.1
  have p32 := pin2.2.2.1
  have p42 := pin2.2.2.2
  refine AW.aload_n (pc' := 6) dX12_meanOf_5 rfl ?_
  refine AW.getI (pc' := 9) dX12_meanOf_6 ly_57 fX12_259 rfl (fun r6 => ?_)
  refine AW.if_ne (tgt := 17) (pc' := 12) dX12_meanOf_9 (by first | assumption | omega | (constructor <;> omega) | (simp only [Int.toNat_natCast]; omega) | exact b2_in _) (fun c9 => ?_) (fun c9 => ?_)
  · refine AW.aload_n (pc' := 18) dX12_meanOf_17 rfl ?_
    refine AW.getI (pc' := 21) dX12_meanOf_18 ly_57 fX12_262 rfl (fun r18 => ?_)
    refine AW.aload_n (pc' := 22) dX12_meanOf_21 rfl ?_
    refine AW.getI (pc' := 25) dX12_meanOf_22 ly_57 fX12_259 rfl (fun r22 => ?_)
    refine AW.idiv (pc' := 26) dX12_meanOf_25 (by first | assumption | omega | (constructor <;> omega) | (simp only [Int.toNat_natCast]; omega) | exact b2_in _) (by first | assumption | omega | (constructor <;> omega) | (simp only [Int.toNat_natCast]; omega) | exact b2_in _) (by first | assumption | omega | (constructor <;> omega) | (simp only [Int.toNat_natCast]; omega) | exact b2_in _) ?_
    refine AW.iret dX12_meanOf_26 ?_ ?_
    · refine congrArg (fun z : Int => (some (vI z) : Option AV)) ?_
      unfold meanP
      first | (rw [if_pos (by omega)]) | (rw [if_neg (by omega), u2, t2])
    · exact ⟨e2, t2⟩
  · refine AW.ldc (v := -2000000000) (pc' := 14) dX12_meanOf_12 kX12_156 ?_
    refine AW.goto (tgt := 26) dX12_meanOf_14 ?_
    refine AW.iret dX12_meanOf_26 ?_ ?_
    · refine congrArg (fun z : Int => (some (vI z) : Option AV)) ?_
      unfold meanP
      first | (rw [if_pos (by omega)]) | (rw [if_neg (by omega), u2, t2])
    · exact ⟨e2, t2⟩
set_option maxRecDepth 100000 in
set_option maxHeartbeats 4000000 in
theorem c_X12_changed {K : KT} {dep : Nat} {h : Hp} {a b : Int} (hd : 4 ≤ dep) (hI : IMa h) (q1 : inI a) (q2 : inI b) : AMp K yX12_changed cX12_changed 4 (some .int) dep [vR 57, vI a, vI b] h (some (vI (if (0 ≤ a ∧ a ≤ 3) ∧ 0 ≤ b ∧ b ≤ 1 then (if b = 1 then (prM h a).1 else meanP (prM h a)) else -2000000000))) (fun x => EP mscr h x) := by
  refine AM.of (own := RX12) (ls := [some (vR 57), some (vI a), some (vI b), none]) rfl (by decide +kernel) (by exact Nat.le_of_ble_eq_true rfl) rfl (fun hO => ?_)
  have g6 := hI.2.2.2.1
  have g7 := hI.2.2.2.2.1
  have g8 := hI.2.1.2.1
  refine AW.iload_n (pc' := 1) dX12_changed_0 rfl ?_
  refine AW.iconst (pc' := 2) dX12_changed_1 ?_
  refine AW.iconst (pc' := 3) dX12_changed_2 ?_
  refine AW.invS3 (pc' := 6) dX12_changed_3 mlX12_117 mX12_isIn (c_X12_isIn (dep := dep - 1) (by first | assumption | omega | (constructor <;> omega) | (simp only [Int.toNat_natCast]; omega) | exact b2_in _) (by first | assumption | omega | (constructor <;> omega) | (simp only [Int.toNat_natCast]; omega) | exact b2_in _) (by first | assumption | omega | (constructor <;> omega) | (simp only [Int.toNat_natCast]; omega) | exact b2_in _)) ?_
  refine AW.ifb_eq (tgt := 18) (pc' := 9) dX12_changed_6 (fun c6 => ?_) (fun c6 => ?_)
  · refine AW.ldc (v := -2000000000) (pc' := 20) dX12_changed_18 kX12_156 ?_
    refine AW.iret dX12_changed_20 ?_ ?_
    · refine congrArg (fun z : Int => (some (vI z) : Option AV)) ?_
      (repeat' split) <;> first | rfl | omega
    · first | exact EP.rf | exact e23
  · refine AW.iload_n (pc' := 10) dX12_changed_9 rfl ?_
    refine AW.iconst (pc' := 11) dX12_changed_10 ?_
    refine AW.iconst (pc' := 12) dX12_changed_11 ?_
    refine AW.invS3 (pc' := 15) dX12_changed_12 mlX12_117 mX12_isIn (c_X12_isIn (dep := dep - 1) (by first | assumption | omega | (constructor <;> omega) | (simp only [Int.toNat_natCast]; omega) | exact b2_in _) (by first | assumption | omega | (constructor <;> omega) | (simp only [Int.toNat_natCast]; omega) | exact b2_in _) (by first | assumption | omega | (constructor <;> omega) | (simp only [Int.toNat_natCast]; omega) | exact b2_in _)) ?_
    refine AW.ifb_ne (tgt := 21) (pc' := 18) dX12_changed_15 (fun c15 => ?_) (fun c15 => ?_)
    · refine AW.aload_n (pc' := 22) dX12_changed_21 rfl ?_
      refine AW.iload_n (pc' := 23) dX12_changed_22 rfl ?_
      refine AW.invQ1 (pc' := 26) dX12_changed_23 mlX12_277 mX12_meanOf ly_57 rfl (c_X12_meanOf (dep := dep - 1) (by first | assumption | omega | (constructor <;> omega) | (simp only [Int.toNat_natCast]; omega) | exact b2_in _) (by first | assumption | omega | (constructor <;> omega) | (simp only [Int.toNat_natCast]; omega) | exact b2_in _) (by first | assumption | omega | (constructor <;> omega) | (simp only [Int.toNat_natCast]; omega) | exact b2_in _)) (fun h23 s23 => ?_)
      obtain ⟨e23, t23⟩ := s23
      have pin := prM_in hI a
      have mp := meanP_in pin g7
      refine AW.istore3n (pc' := 27) dX12_changed_26 (by decide) rfl ?_
      refine AW.iload_n (pc' := 28) dX12_changed_27 rfl ?_
      refine AW.iconst (pc' := 29) dX12_changed_28 ?_
      refine AW.icmp_ne (tgt := 39) (pc' := 32) dX12_changed_29 (by first | assumption | omega | (constructor <;> omega) | (simp only [Int.toNat_natCast]; omega) | exact b2_in _) (by first | assumption | omega | (constructor <;> omega) | (simp only [Int.toNat_natCast]; omega) | exact b2_in _) (fun c29 => ?_) (fun c29 => ?_)
      · refine AW.iload_n (pc' := 40) dX12_changed_39 rfl ?_
        refine AW.iret dX12_changed_40 ?_ ?_
        · refine congrArg (fun z : Int => (some (vI z) : Option AV)) ?_
          (repeat' split) <;> first | rfl | omega
        · first | exact EP.rf | exact e23
      · refine AW.aload_n (pc' := 33) dX12_changed_32 rfl ?_
        refine AW.getI (pc' := 36) dX12_changed_33 ly_57 fX12_259 rfl (fun r33 => ?_)
        refine AW.goto (tgt := 40) dX12_changed_36 ?_
        refine AW.iret dX12_changed_40 ?_ ?_
        · refine congrArg (fun z : Int => (some (vI z) : Option AV)) ?_
          (repeat' split) <;> first | rfl | omega
        · first | exact EP.rf | exact e23
    · refine AW.ldc (v := -2000000000) (pc' := 20) dX12_changed_18 kX12_156 ?_
      refine AW.iret dX12_changed_20 ?_ ?_
      · refine congrArg (fun z : Int => (some (vI z) : Option AV)) ?_
        (repeat' split) <;> first | rfl | omega
      · first | exact EP.rf | exact e23
set_option maxRecDepth 100000 in
set_option maxHeartbeats 4000000 in
theorem c_X12_since {K : KT} {dep : Nat} {h : Hp}  (hd : 4 ≤ dep) (hI : IMa h) : AMp K yX12_since cX12_since 3 (some .int) dep [vR 57] h (some (vI (lessV (meanP (prM h 0)) (meanP (prM h 2))))) (fun x => EP mscr h x) := by
  refine AM.of (own := RX12) (ls := [some (vR 57), none, none]) rfl (by decide +kernel) (by exact Nat.le_of_ble_eq_true rfl) rfl (fun hO => ?_)
  have g6 := hI.2.2.2.1
  have g7 := hI.2.2.2.2.1
  have g8 := hI.2.1.2.1
  have mp0 := meanP_in (prM_in hI 0) g7
  have mp2 := meanP_in (prM_in hI 2) g7
  refine AW.aload_n (pc' := 1) dX12_since_0 rfl ?_
  refine AW.iconst (pc' := 2) dX12_since_1 ?_
  refine AW.invQ1 (pc' := 5) dX12_since_2 mlX12_277 mX12_meanOf ly_57 rfl (c_X12_meanOf (dep := dep - 1) (by first | assumption | omega | (constructor <;> omega) | (simp only [Int.toNat_natCast]; omega) | exact b2_in _) (by first | assumption | omega | (constructor <;> omega) | (simp only [Int.toNat_natCast]; omega) | exact b2_in _) (by first | assumption | omega | (constructor <;> omega) | (simp only [Int.toNat_natCast]; omega) | exact b2_in _)) (fun h2 s2 => ?_)
  obtain ⟨e2, t2⟩ := s2
  have hI2 := hI.ep e2
  refine AW.istore1n (pc' := 6) dX12_since_5 (by decide) rfl ?_
  refine AW.aload_n (pc' := 7) dX12_since_6 rfl ?_
  refine AW.iconst (pc' := 8) dX12_since_7 ?_
  refine AW.invQ1 (pc' := 11) dX12_since_8 mlX12_277 mX12_meanOf ly_57 rfl (c_X12_meanOf (dep := dep - 1) (by first | assumption | omega | (constructor <;> omega) | (simp only [Int.toNat_natCast]; omega) | exact b2_in _) (by first | assumption | omega | (constructor <;> omega) | (simp only [Int.toNat_natCast]; omega) | exact b2_in _) (by first | assumption | omega | (constructor <;> omega) | (simp only [Int.toNat_natCast]; omega) | exact b2_in _)) (fun h8 s8 => ?_)
  obtain ⟨e8, t8⟩ := s8
  rw [prM_ep e2]
  refine AW.istore2n (pc' := 12) dX12_since_11 (by decide) rfl ?_
  refine AW.iload_n (pc' := 13) dX12_since_12 rfl ?_
  refine AW.ldc (v := -2000000000) (pc' := 15) dX12_since_13 kX12_156 ?_
  refine AW.icmp_eq (tgt := 24) (pc' := 18) dX12_since_15 (by first | assumption | omega | (constructor <;> omega) | (simp only [Int.toNat_natCast]; omega) | exact b2_in _) (by first | assumption | omega | (constructor <;> omega) | (simp only [Int.toNat_natCast]; omega) | exact b2_in _) (fun c15 => ?_) (fun c15 => ?_)
  · refine AW.ldc (v := -2000000000) (pc' := 26) dX12_since_24 kX12_156 ?_
    refine AW.goto (tgt := 32) dX12_since_26 ?_
    refine AW.iret dX12_since_32 ?_ ?_
    · refine congrArg (fun z : Int => (some (vI z) : Option AV)) ?_
      unfold lessV
      first | (rw [if_pos (by omega)]) | (rw [if_neg (by omega)])
    · exact e2.tr e8
  · refine AW.iload_n (pc' := 19) dX12_since_18 rfl ?_
    refine AW.ldc (v := -2000000000) (pc' := 21) dX12_since_19 kX12_156 ?_
    refine AW.icmp_ne (tgt := 29) (pc' := 24) dX12_since_21 (by first | assumption | omega | (constructor <;> omega) | (simp only [Int.toNat_natCast]; omega) | exact b2_in _) (by first | assumption | omega | (constructor <;> omega) | (simp only [Int.toNat_natCast]; omega) | exact b2_in _) (fun c21 => ?_) (fun c21 => ?_)
    · refine AW.iload_n (pc' := 30) dX12_since_29 rfl ?_
      refine AW.iload_n (pc' := 31) dX12_since_30 rfl ?_
      refine AW.isub (pc' := 32) dX12_since_31 ?_
      refine AW.iret dX12_since_32 ?_ ?_
      · refine congrArg (fun z : Int => (some (vI z) : Option AV)) ?_
        unfold lessV
        first | (rw [if_pos (by omega)]) | (rw [if_neg (by omega)])
      · exact e2.tr e8
    · refine AW.ldc (v := -2000000000) (pc' := 26) dX12_since_24 kX12_156 ?_
      refine AW.goto (tgt := 32) dX12_since_26 ?_
      refine AW.iret dX12_since_32 ?_ ?_
      · refine congrArg (fun z : Int => (some (vI z) : Option AV)) ?_
        unfold lessV
        first | (rw [if_pos (by omega)]) | (rw [if_neg (by omega)])
      · exact e2.tr e8
/-- a run of a race: old, new, or not seen -/
def raceS (co ye : Nat → Int) (c y : Int) (sh gv lv : Nat → Int) (k : Nat) (s : T4 × Int) : T4 × Int := if co k = c ∧ ye k = y then (if 0 ≤ sh k then (addT (lv k) (0 < gv (sh k).toNat) s.1, s.2) else (s.1, s.2 + 1)) else s
def raceF (n : Int) (co ye : Nat → Int) (c y : Int) (sh gv lv : Nat → Int) : T4 × Int := lp (raceS co ye c y sh gv lv) n.toNat 0 ((0, 0, 0, 0), 0)
def RI (s : T4 × Int) (b : Int) : Prop := TI s.1 b ∧ 0 ≤ s.2 ∧ s.2 ≤ b
theorem raceS_in {co ye sh gv lv : Nat → Int} {c y : Int} {k : Nat} {b : Int} {s : T4 × Int} (H : RI s b) (h1 : 5 ≤ lv k) (h2 : lv k ≤ 59998) : RI (raceS co ye c y sh gv lv k s) (b + 1) := by
  obtain ⟨H1, H2, H3⟩ := H
  have H4 : TI s.1 (b + 1) := ⟨H1.1, H1.2.1, by have := H1.2.2.1; omega, H1.2.2.2⟩
  unfold raceS
  split
  · split
    · exact ⟨addT_in H1 h1 h2, H2, by show s.2 ≤ _; omega⟩
    · exact ⟨H4, by show 0 ≤ s.2 + 1; omega, by show s.2 + 1 ≤ _; omega⟩
  · exact ⟨H4, H2, by omega⟩
theorem raceL_in {co ye sh gv lv : Nat → Int} {c y m : Int} (hl : ∀ k : Nat, (k : Int) < m → 5 ≤ lv k ∧ lv k ≤ 59998) : ∀ (n k : Nat) (s : T4 × Int), (k : Int) + n = m → RI s k → RI (lp (raceS co ye c y sh gv lv) n k s) m
  | 0, k, s, hk, H => by
    have e : m = k := by omega
    rw [e]
    exact H
  | n + 1, k, s, hk, H => by
    unfold lp
    exact raceL_in hl n (k + 1) _ (by omega) (raceS_in H (hl k (by omega)).1 (hl k (by omega)).2)
abbrev rcM (h : Hp) (c y : Int) : Nat → T4 × Int → T4 × Int := raceS (h 67) (h 68) c y (h 70) (h 63) (lvM h)
abbrev raM (h : Hp) (c y : Int) : T4 × Int := raceF (h 57 16) (h 67) (h 68) c y (h 70) (h 63) (lvM h)
theorem raM_ep {h h1 : Hp} (e : EP mscr h h1) (c y : Int) : raM h1 c y = raM h c y := by
  simp only [raM, lvM]
  rw [e.row 68 (fun _ => rfl), e.row 69 (fun _ => rfl), e.row 70 (fun _ => rfl), e.row 67 (fun _ => rfl), e.row 65 (fun _ => rfl), e.row 63 (fun _ => rfl), e 57 16 rfl]
theorem RI.up {s : T4 × Int} {b c : Int} (H : RI s b) (hc : b ≤ c) : RI s c := by
  obtain ⟨⟨a1, a2, a3, a4, a5, a6, a7⟩, a8, a9⟩ := H
  exact ⟨⟨a1, a2, by omega, a4, a5, a6, a7⟩, a8, by omega⟩
theorem raM_in {h : Hp} (hI : IMa h) (c y : Int) : RI (raM h c y) 120 :=
  RI.up (raceL_in (co := h 67) (ye := h 68) (sh := h 70) (gv := h 63) (lv := lvM h) (c := c) (y := y) (m := h 57 16) (fun k hk => by have := lvl_in hI.2.2.2 hI.2.2.1 hk; exact ⟨this.2.2.1, this.2.2.2⟩) (h 57 16).toNat 0 ((0, 0, 0, 0), 0) (by have := hI.2.2.2.1; omega) ⟨⟨by decide, by decide, by decide, by decide, by decide, by decide, by decide⟩, by decide, by decide⟩) hI.2.2.2.2.1
/-- the reference's fields of a race -/
def fld5 (h : Hp) : T4 × Int := ((h 57 41, h 57 43, h 57 42, h 57 44), h 57 45)
set_option maxRecDepth 100000 in
set_option maxHeartbeats 4000000 in
theorem lp_X12_findRace {K : KT} {X : XT} {dep : Nat} {h : Hp} {a b : Int} (hI : IMa h) (qa : inI a) (qb : inI b) (hd : 2 ≤ dep) : ∀ (n k : Nat) (s : T4 × Int) (h1 : Hp), (k : Int) + n = h 57 16 → EP mscr h h1 → fld5 h1 = s → RI s k → (∀ h2 : Hp, EP mscr h h2 → fld5 h2 = lp (rcM h a b) n k s → AW K X RX12 cX12_findRace 4 none dep 144 [some (vR 57), some (vI (a)), some (vI (b)), none] [] h2) → AW K X RX12 cX12_findRace 4 none dep 27 [some (vR 57), some (vI (a)), some (vI (b)), some (vI ((k : Int)))] [] h1 := by
  have g6 := hI.2.2.2.1
  have g7 := hI.2.2.2.2.1
  have g8 := hI.2.1.2.1
  intro n
  induction n with
  | zero =>
    intro k s h1 hk e1 t1 i0 kk
    have w13 : h1 57 16 = h 57 16 := e1 57 16 rfl
    have w66 := e1.row 66 (fun _ => rfl)
    have w68 := e1.row 68 (fun _ => rfl)
    have w69 := e1.row 69 (fun _ => rfl)
    have w70 := e1.row 70 (fun _ => rfl)
    have w67 := e1.row 67 (fun _ => rfl)
    have w65 := e1.row 65 (fun _ => rfl)
    have w63 := e1.row 63 (fun _ => rfl)
    have w15 : h1 57 15 = h 57 15 := e1 57 15 rfl
    have w14 : h1 57 13 = h 57 13 := e1 57 13 rfl
    have hI_w := hI.ep e1
    refine AW.iload_n (pc' := 28) dX12_findRace_27 rfl ?_
    refine AW.aload_n (pc' := 29) dX12_findRace_28 rfl ?_
    refine AW.getI (pc' := 32) dX12_findRace_29 ly_57 fX12_128 rfl (fun r29 => ?_)
    refine AW.icmp_ge (tgt := 144) (pc' := 35) dX12_findRace_32 (by first | assumption | omega | (constructor <;> omega) | (simp only [Int.toNat_natCast]; omega) | exact b2_in _) (by first | assumption | omega | (constructor <;> omega) | (simp only [Int.toNat_natCast]; omega) | exact b2_in _) (fun c32 => ?_) (fun c32 => ?_)
    · exact AW.weak (kk h1 e1 t1) (by (repeat' first | exact LSub.e | refine LSub.n ?_ | refine LSub.c ?_ ?_) <;> first | rfl | exact congrArg Sum.inl (by first | rfl | omega | omega))
    · omega
  | succ n ih =>
    intro k s h1 hk e1 t1 i0 kk
    have w13 : h1 57 16 = h 57 16 := e1 57 16 rfl
    have w66 := e1.row 66 (fun _ => rfl)
    have w68 := e1.row 68 (fun _ => rfl)
    have w69 := e1.row 69 (fun _ => rfl)
    have w70 := e1.row 70 (fun _ => rfl)
    have w67 := e1.row 67 (fun _ => rfl)
    have w65 := e1.row 65 (fun _ => rfl)
    have w63 := e1.row 63 (fun _ => rfl)
    have w15 : h1 57 15 = h 57 15 := e1 57 15 rfl
    have w14 : h1 57 13 = h 57 13 := e1 57 13 rfl
    have hI_w := hI.ep e1
    have hkr : (k : Int) < h 57 16 := by omega
    have lv1 := lvl_in hI.2.2.2 hI.2.2.1 hkr
    have g5 := hI.2.2.2.2.2 k hkr
    have g51 : h1 70 k < 6 := by rw [w70]; omega
    have i1 : RI (rcM h a b k s) ((k + 1 : Nat) : Int) := raceS_in (co := h 67) (ye := h 68) (sh := h 70) (gv := h 63) (lv := lvM h) (c := a) (y := b) i0 lv1.2.2.1 lv1.2.2.2
    have t3 : h1 57 41 = s.1.1 := by rw [← t1]; rfl
    have t4 : h1 57 43 = s.1.2.1 := by rw [← t1]; rfl
    have t5 : h1 57 42 = s.1.2.2.1 := by rw [← t1]; rfl
    have t6 : h1 57 44 = s.1.2.2.2 := by rw [← t1]; rfl
    have t7 : h1 57 45 = s.2 := by rw [← t1]; rfl
    obtain ⟨⟨a1, a2, a3, a4, a5, a6, a7⟩, a8, a9⟩ := i0
    refine AW.iload_n (pc' := 28) dX12_findRace_27 rfl ?_
    refine AW.aload_n (pc' := 29) dX12_findRace_28 rfl ?_
    refine AW.getI (pc' := 32) dX12_findRace_29 ly_57 fX12_128 rfl (fun r29 => ?_)
    try simp only [w13, w66, w68, w69, w70, w67, w65, w63, w15, w14] at r29 ⊢
    refine AW.icmp_ge (tgt := 144) (pc' := 35) dX12_findRace_32 (by first | assumption | omega | (constructor <;> omega) | (simp only [Int.toNat_natCast]; omega) | exact b2_in _) (by first | assumption | omega | (constructor <;> omega) | (simp only [Int.toNat_natCast]; omega) | exact b2_in _) (fun c32 => ?_) (fun c32 => ?_)
    · omega
    · refine AW.aload_n (pc' := 36) dX12_findRace_35 rfl ?_
      refine AW.getR (pc' := 39) dX12_findRace_36 ly_57 fX12_37 rfl ?_
      refine AW.iload_n (pc' := 40) dX12_findRace_39 rfl ?_
      first | refine AW.ialdN (pc' := 41) dX12_findRace_40 ly_67 (by first | assumption | omega | (constructor <;> omega) | (simp only [Int.toNat_natCast]; omega) | exact b2_in _) (by decide) (fun r40 => ?_) | refine AW.iald (pc' := 41) dX12_findRace_40 ly_67 (by first | assumption | omega | (constructor <;> omega) | (simp only [Int.toNat_natCast]; omega) | exact b2_in _) (by first | assumption | omega | (constructor <;> omega) | (simp only [Int.toNat_natCast]; omega) | exact b2_in _) (by decide) (fun r40 => ?_)
      try simp only [w13, w66, w68, w69, w70, w67, w65, w63, w15, w14] at r40 ⊢
      refine AW.iload_n (pc' := 42) dX12_findRace_41 rfl ?_
      refine AW.icmp_ne (tgt := 138) (pc' := 45) dX12_findRace_42 (by first | assumption | omega | (constructor <;> omega) | (simp only [Int.toNat_natCast]; omega) | exact b2_in _) (by first | assumption | omega | (constructor <;> omega) | (simp only [Int.toNat_natCast]; omega) | exact b2_in _) (fun c42 => ?_) (fun c42 => ?_)
      · refine AW.iinc3 (pc' := 141) dX12_findRace_138 (by decide) rfl ?_
        refine AW.goto (tgt := 27) dX12_findRace_141 ?_
        have z : rcM h a b k s = s := by
          simp only [rcM, lvM]
          unfold raceS addT
          rw [if_neg (by omega)]
        refine AW.weak (ih (k + 1) (rcM h a b k s) _ (by omega) e1 (by rw [z]; unfold fld5; (try simp only [hset_app, Nat.reduceEqDiff, and_false, true_and, and_true, false_and, reduceIte]); refine Prod.ext (Prod.ext ?_ (Prod.ext ?_ (Prod.ext ?_ ?_))) ?_ <;> simp only [lvM] <;> omega) i1 kk) (by (repeat' first | exact LSub.e | refine LSub.n ?_ | refine LSub.c ?_ ?_) <;> first | rfl | exact congrArg Sum.inl (by first | rfl | omega | omega))
      · refine AW.aload_n (pc' := 46) dX12_findRace_45 rfl ?_
        refine AW.getR (pc' := 49) dX12_findRace_46 ly_57 fX12_40 rfl ?_
        refine AW.iload_n (pc' := 50) dX12_findRace_49 rfl ?_
        first | refine AW.ialdN (pc' := 51) dX12_findRace_50 ly_68 (by first | assumption | omega | (constructor <;> omega) | (simp only [Int.toNat_natCast]; omega) | exact b2_in _) (by decide) (fun r50 => ?_) | refine AW.iald (pc' := 51) dX12_findRace_50 ly_68 (by first | assumption | omega | (constructor <;> omega) | (simp only [Int.toNat_natCast]; omega) | exact b2_in _) (by first | assumption | omega | (constructor <;> omega) | (simp only [Int.toNat_natCast]; omega) | exact b2_in _) (by decide) (fun r50 => ?_)
        try simp only [w13, w66, w68, w69, w70, w67, w65, w63, w15, w14] at r50 ⊢
        refine AW.iload_n (pc' := 52) dX12_findRace_51 rfl ?_
        refine AW.icmp_eq (tgt := 58) (pc' := 55) dX12_findRace_52 (by first | assumption | omega | (constructor <;> omega) | (simp only [Int.toNat_natCast]; omega) | exact b2_in _) (by first | assumption | omega | (constructor <;> omega) | (simp only [Int.toNat_natCast]; omega) | exact b2_in _) (fun c52 => ?_) (fun c52 => ?_)
        · refine AW.aload_n (pc' := 59) dX12_findRace_58 rfl ?_
          refine AW.iload_n (pc' := 60) dX12_findRace_59 rfl ?_
          refine AW.invV1 (pc' := 63) dX12_findRace_60 mlX12_295 mX12_isOld ly_57 rfl (c_X12_isOld (dep := dep - 1) (by first | assumption | omega | (constructor <;> omega) | (simp only [Int.toNat_natCast]; omega) | exact b2_in _) (by first | assumption | omega | (constructor <;> omega) | (simp only [Int.toNat_natCast]; omega) | exact b2_in _)) ?_
          try simp only [Int.toNat_natCast, w13, w66, w68, w69, w70, w67, w65, w63, w15, w14]
          refine AW.ifb_eq (tgt := 93) (pc' := 66) dX12_findRace_63 (fun c63 => ?_) (fun c63 => ?_)
          · refine AW.aload_n (pc' := 94) dX12_findRace_93 rfl ?_
            refine AW.iload_n (pc' := 95) dX12_findRace_94 rfl ?_
            refine AW.invV1 (pc' := 98) dX12_findRace_95 mlX12_256 mX12_isNew ly_57 rfl (c_X12_isNew (dep := dep - 1) (by first | assumption | omega | (constructor <;> omega) | (simp only [Int.toNat_natCast]; omega) | exact b2_in _) (by first | assumption | omega | (constructor <;> omega) | (simp only [Int.toNat_natCast]; omega) | exact b2_in _)) ?_
            try simp only [Int.toNat_natCast, w13, w66, w68, w69, w70, w67, w65, w63, w15, w14]
            refine AW.ifb_eq (tgt := 128) (pc' := 101) dX12_findRace_98 (fun c98 => ?_) (fun c98 => ?_)
            · refine AW.aload_n (pc' := 129) dX12_findRace_128 rfl ?_
              refine AW.dup (pc' := 130) dX12_findRace_129 rfl ?_
              refine AW.getI (pc' := 133) dX12_findRace_130 ly_57 fX12_292 rfl (fun r130 => ?_)
              try simp only [w13, w66, w68, w69, w70, w67, w65, w63, w15, w14] at r130 ⊢
              refine AW.iconst (pc' := 134) dX12_findRace_133 ?_
              refine AW.iadd (pc' := 135) dX12_findRace_134 ?_
              refine AW.putI (pc' := 138) dX12_findRace_135 ly_57 pX12_292 rfl (by first | assumption | omega | (constructor <;> omega) | (simp only [Int.toNat_natCast]; omega) | exact b2_in _) ?_
              refine AW.iinc3 (pc' := 141) dX12_findRace_138 (by decide) rfl ?_
              refine AW.goto (tgt := 27) dX12_findRace_141 ?_
              have z : rcM h a b k s = (s.1, s.2 + 1) := by
                simp only [rcM, lvM]
                unfold raceS addT
                rw [if_pos (by omega), if_neg (by omega)]
              refine AW.weak (ih (k + 1) (rcM h a b k s) _ (by omega) (e1.st rfl) (by rw [z]; unfold fld5; (try simp only [hset_app, Nat.reduceEqDiff, and_false, true_and, and_true, false_and, reduceIte]); refine Prod.ext (Prod.ext ?_ (Prod.ext ?_ (Prod.ext ?_ ?_))) ?_ <;> simp only [lvM] <;> omega) i1 kk) (by (repeat' first | exact LSub.e | refine LSub.n ?_ | refine LSub.c ?_ ?_) <;> first | rfl | exact congrArg Sum.inl (by first | rfl | omega | omega))
            · refine AW.aload_n (pc' := 102) dX12_findRace_101 rfl ?_
              refine AW.dup (pc' := 103) dX12_findRace_102 rfl ?_
              refine AW.getI (pc' := 106) dX12_findRace_103 ly_57 fX12_289 rfl (fun r103 => ?_)
              try simp only [w13, w66, w68, w69, w70, w67, w65, w63, w15, w14] at r103 ⊢
              refine AW.iconst (pc' := 107) dX12_findRace_106 ?_
              refine AW.iadd (pc' := 108) dX12_findRace_107 ?_
              refine AW.putI (pc' := 111) dX12_findRace_108 ly_57 pX12_289 rfl (by first | assumption | omega | (constructor <;> omega) | (simp only [Int.toNat_natCast]; omega) | exact b2_in _) ?_
              obtain ⟨h3, gh3⟩ : ∃ z, z = hset h1 57 44 (h1 57 44 + 1) := ⟨_, rfl⟩
              rw [← gh3]
              have eh3 : EP mscr h h3 := by rw [gh3]; exact (e1).st rfl
              have fh3_0 : h3 57 41 = s.1.1 := by rw [gh3]; simp only [hset_app, Nat.reduceEqDiff, and_false, true_and, and_true, false_and, reduceIte]; omega
              have fh3_1 : h3 57 43 = s.1.2.1 := by rw [gh3]; simp only [hset_app, Nat.reduceEqDiff, and_false, true_and, and_true, false_and, reduceIte]; omega
              have fh3_2 : h3 57 42 = s.1.2.2.1 := by rw [gh3]; simp only [hset_app, Nat.reduceEqDiff, and_false, true_and, and_true, false_and, reduceIte]; omega
              have fh3_3 : h3 57 44 = s.1.2.2.2 + 1 := by rw [gh3]; simp only [hset_app, Nat.reduceEqDiff, and_false, true_and, and_true, false_and, reduceIte]; omega
              have fh3_4 : h3 57 45 = s.2 := by rw [gh3]; simp only [hset_app, Nat.reduceEqDiff, and_false, true_and, and_true, false_and, reduceIte]; omega
              have w13 : h3 57 16 = h 57 16 := eh3 57 16 rfl
              have w66 := eh3.row 66 (fun _ => rfl)
              have w68 := eh3.row 68 (fun _ => rfl)
              have w69 := eh3.row 69 (fun _ => rfl)
              have w70 := eh3.row 70 (fun _ => rfl)
              have w67 := eh3.row 67 (fun _ => rfl)
              have w65 := eh3.row 65 (fun _ => rfl)
              have w63 := eh3.row 63 (fun _ => rfl)
              have w15 : h3 57 15 = h 57 15 := eh3 57 15 rfl
              have w14 : h3 57 13 = h 57 13 := eh3 57 13 rfl
              have hI_w := hI.ep eh3
              refine AW.aload_n (pc' := 112) dX12_findRace_111 rfl ?_
              refine AW.dup (pc' := 113) dX12_findRace_112 rfl ?_
              refine AW.getI (pc' := 116) dX12_findRace_113 ly_57 fX12_286 rfl (fun r113 => ?_)
              try simp only [w13, w66, w68, w69, w70, w67, w65, w63, w15, w14] at r113 ⊢
              try simp only [hset_app, Nat.reduceEqDiff, false_and, and_false, true_and, and_true, reduceIte] at r113 ⊢
              refine AW.aload_n (pc' := 117) dX12_findRace_116 rfl ?_
              refine AW.iload_n (pc' := 118) dX12_findRace_117 rfl ?_
              refine AW.invV1 (pc' := 121) dX12_findRace_118 mlX12_157 mX12_level ly_57 rfl (c_X12_level (dep := dep - 1) (by first | assumption | omega | (constructor <;> omega) | (simp only [Int.toNat_natCast]; omega) | exact b2_in _) (by first | assumption | omega | (constructor <;> omega) | (simp only [Int.toNat_natCast]; omega) | exact b2_in _)) ?_
              try simp only [Int.toNat_natCast, w13, w66, w68, w69, w70, w67, w65, w63, w15, w14]
              refine AW.iadd (pc' := 122) dX12_findRace_121 ?_
              refine AW.putI (pc' := 125) dX12_findRace_122 ly_57 pX12_286 rfl (by first | assumption | omega | (constructor <;> omega) | (simp only [Int.toNat_natCast]; omega) | exact b2_in _) ?_
              refine AW.goto (tgt := 138) dX12_findRace_125 ?_
              refine AW.iinc3 (pc' := 141) dX12_findRace_138 (by decide) rfl ?_
              refine AW.goto (tgt := 27) dX12_findRace_141 ?_
              have z : rcM h a b k s = ((s.1.1, s.1.2.1 + lvM h k, s.1.2.2.1, s.1.2.2.2 + 1), s.2) := by
                simp only [rcM, lvM]
                unfold raceS addT
                rw [if_pos (by omega), if_pos (by omega), if_pos (by omega)]
              refine AW.weak (ih (k + 1) (rcM h a b k s) _ (by omega) (eh3.st rfl) (by rw [z]; unfold fld5; (try simp only [hset_app, Nat.reduceEqDiff, and_false, true_and, and_true, false_and, reduceIte]); refine Prod.ext (Prod.ext ?_ (Prod.ext ?_ (Prod.ext ?_ ?_))) ?_ <;> simp only [lvM] <;> omega) i1 kk) (by (repeat' first | exact LSub.e | refine LSub.n ?_ | refine LSub.c ?_ ?_) <;> first | rfl | exact congrArg Sum.inl (by first | rfl | omega | omega))
          · refine AW.aload_n (pc' := 67) dX12_findRace_66 rfl ?_
            refine AW.dup (pc' := 68) dX12_findRace_67 rfl ?_
            refine AW.getI (pc' := 71) dX12_findRace_68 ly_57 fX12_283 rfl (fun r68 => ?_)
            try simp only [w13, w66, w68, w69, w70, w67, w65, w63, w15, w14] at r68 ⊢
            refine AW.iconst (pc' := 72) dX12_findRace_71 ?_
            refine AW.iadd (pc' := 73) dX12_findRace_72 ?_
            refine AW.putI (pc' := 76) dX12_findRace_73 ly_57 pX12_283 rfl (by first | assumption | omega | (constructor <;> omega) | (simp only [Int.toNat_natCast]; omega) | exact b2_in _) ?_
            obtain ⟨h3, gh3⟩ : ∃ z, z = hset h1 57 42 (h1 57 42 + 1) := ⟨_, rfl⟩
            rw [← gh3]
            have eh3 : EP mscr h h3 := by rw [gh3]; exact (e1).st rfl
            have fh3_0 : h3 57 41 = s.1.1 := by rw [gh3]; simp only [hset_app, Nat.reduceEqDiff, and_false, true_and, and_true, false_and, reduceIte]; omega
            have fh3_1 : h3 57 43 = s.1.2.1 := by rw [gh3]; simp only [hset_app, Nat.reduceEqDiff, and_false, true_and, and_true, false_and, reduceIte]; omega
            have fh3_2 : h3 57 42 = s.1.2.2.1 + 1 := by rw [gh3]; simp only [hset_app, Nat.reduceEqDiff, and_false, true_and, and_true, false_and, reduceIte]; omega
            have fh3_3 : h3 57 44 = s.1.2.2.2 := by rw [gh3]; simp only [hset_app, Nat.reduceEqDiff, and_false, true_and, and_true, false_and, reduceIte]; omega
            have fh3_4 : h3 57 45 = s.2 := by rw [gh3]; simp only [hset_app, Nat.reduceEqDiff, and_false, true_and, and_true, false_and, reduceIte]; omega
            have w13 : h3 57 16 = h 57 16 := eh3 57 16 rfl
            have w66 := eh3.row 66 (fun _ => rfl)
            have w68 := eh3.row 68 (fun _ => rfl)
            have w69 := eh3.row 69 (fun _ => rfl)
            have w70 := eh3.row 70 (fun _ => rfl)
            have w67 := eh3.row 67 (fun _ => rfl)
            have w65 := eh3.row 65 (fun _ => rfl)
            have w63 := eh3.row 63 (fun _ => rfl)
            have w15 : h3 57 15 = h 57 15 := eh3 57 15 rfl
            have w14 : h3 57 13 = h 57 13 := eh3 57 13 rfl
            have hI_w := hI.ep eh3
            refine AW.aload_n (pc' := 77) dX12_findRace_76 rfl ?_
            refine AW.dup (pc' := 78) dX12_findRace_77 rfl ?_
            refine AW.getI (pc' := 81) dX12_findRace_78 ly_57 fX12_280 rfl (fun r78 => ?_)
            try simp only [w13, w66, w68, w69, w70, w67, w65, w63, w15, w14] at r78 ⊢
            try simp only [hset_app, Nat.reduceEqDiff, false_and, and_false, true_and, and_true, reduceIte] at r78 ⊢
            refine AW.aload_n (pc' := 82) dX12_findRace_81 rfl ?_
            refine AW.iload_n (pc' := 83) dX12_findRace_82 rfl ?_
            refine AW.invV1 (pc' := 86) dX12_findRace_83 mlX12_157 mX12_level ly_57 rfl (c_X12_level (dep := dep - 1) (by first | assumption | omega | (constructor <;> omega) | (simp only [Int.toNat_natCast]; omega) | exact b2_in _) (by first | assumption | omega | (constructor <;> omega) | (simp only [Int.toNat_natCast]; omega) | exact b2_in _)) ?_
            try simp only [Int.toNat_natCast, w13, w66, w68, w69, w70, w67, w65, w63, w15, w14]
            refine AW.iadd (pc' := 87) dX12_findRace_86 ?_
            refine AW.putI (pc' := 90) dX12_findRace_87 ly_57 pX12_280 rfl (by first | assumption | omega | (constructor <;> omega) | (simp only [Int.toNat_natCast]; omega) | exact b2_in _) ?_
            refine AW.goto (tgt := 138) dX12_findRace_90 ?_
            refine AW.iinc3 (pc' := 141) dX12_findRace_138 (by decide) rfl ?_
            refine AW.goto (tgt := 27) dX12_findRace_141 ?_
            have z : rcM h a b k s = ((s.1.1 + lvM h k, s.1.2.1, s.1.2.2.1 + 1, s.1.2.2.2), s.2) := by
              simp only [rcM, lvM]
              unfold raceS addT
              rw [if_pos (by omega), if_pos (by omega), if_neg (by omega)]
            refine AW.weak (ih (k + 1) (rcM h a b k s) _ (by omega) (eh3.st rfl) (by rw [z]; unfold fld5; (try simp only [hset_app, Nat.reduceEqDiff, and_false, true_and, and_true, false_and, reduceIte]); refine Prod.ext (Prod.ext ?_ (Prod.ext ?_ (Prod.ext ?_ ?_))) ?_ <;> simp only [lvM] <;> omega) i1 kk) (by (repeat' first | exact LSub.e | refine LSub.n ?_ | refine LSub.c ?_ ?_) <;> first | rfl | exact congrArg Sum.inl (by first | rfl | omega | omega))
        · refine AW.goto (tgt := 138) dX12_findRace_55 ?_
          refine AW.iinc3 (pc' := 141) dX12_findRace_138 (by decide) rfl ?_
          refine AW.goto (tgt := 27) dX12_findRace_141 ?_
          have z : rcM h a b k s = s := by
            simp only [rcM, lvM]
            unfold raceS addT
            rw [if_neg (by omega)]
          refine AW.weak (ih (k + 1) (rcM h a b k s) _ (by omega) e1 (by rw [z]; unfold fld5; (try simp only [hset_app, Nat.reduceEqDiff, and_false, true_and, and_true, false_and, reduceIte]); refine Prod.ext (Prod.ext ?_ (Prod.ext ?_ (Prod.ext ?_ ?_))) ?_ <;> simp only [lvM] <;> omega) i1 kk) (by (repeat' first | exact LSub.e | refine LSub.n ?_ | refine LSub.c ?_ ?_) <;> first | rfl | exact congrArg Sum.inl (by first | rfl | omega | omega))
set_option maxRecDepth 100000 in
set_option maxHeartbeats 4000000 in
theorem c_X12_findRace {K : KT} {dep : Nat} {h : Hp} {a b : Int} (hd : 2 ≤ dep) (hI : IMa h) (q1 : inI a) (q2 : inI b) : AMp K yX12_findRace cX12_findRace 4 none dep [vR 57, vI a, vI b] h none (fun x => EP mscr h x ∧ fld5 x = raM h a b) := by
  refine AM.of (own := RX12) (ls := [some (vR 57), some (vI a), some (vI b), none]) rfl (by decide +kernel) (by exact Nat.le_of_ble_eq_true rfl) rfl (fun hO => ?_)
  have g6 := hI.2.2.2.1
  have g7 := hI.2.2.2.2.1
  have g8 := hI.2.1.2.1
  refine AW.aload_n (pc' := 1) dX12_findRace_0 rfl ?_
  refine AW.iconst (pc' := 2) dX12_findRace_1 ?_
  refine AW.putI (pc' := 5) dX12_findRace_2 ly_57 pX12_280 rfl (by first | assumption | omega | (constructor <;> omega) | (simp only [Int.toNat_natCast]; omega) | exact b2_in _) ?_
  refine AW.aload_n (pc' := 6) dX12_findRace_5 rfl ?_
  refine AW.iconst (pc' := 7) dX12_findRace_6 ?_
  refine AW.putI (pc' := 10) dX12_findRace_7 ly_57 pX12_283 rfl (by first | assumption | omega | (constructor <;> omega) | (simp only [Int.toNat_natCast]; omega) | exact b2_in _) ?_
  refine AW.aload_n (pc' := 11) dX12_findRace_10 rfl ?_
  refine AW.iconst (pc' := 12) dX12_findRace_11 ?_
  refine AW.putI (pc' := 15) dX12_findRace_12 ly_57 pX12_286 rfl (by first | assumption | omega | (constructor <;> omega) | (simp only [Int.toNat_natCast]; omega) | exact b2_in _) ?_
  refine AW.aload_n (pc' := 16) dX12_findRace_15 rfl ?_
  refine AW.iconst (pc' := 17) dX12_findRace_16 ?_
  refine AW.putI (pc' := 20) dX12_findRace_17 ly_57 pX12_289 rfl (by first | assumption | omega | (constructor <;> omega) | (simp only [Int.toNat_natCast]; omega) | exact b2_in _) ?_
  refine AW.aload_n (pc' := 21) dX12_findRace_20 rfl ?_
  refine AW.iconst (pc' := 22) dX12_findRace_21 ?_
  refine AW.putI (pc' := 25) dX12_findRace_22 ly_57 pX12_292 rfl (by first | assumption | omega | (constructor <;> omega) | (simp only [Int.toNat_natCast]; omega) | exact b2_in _) ?_
  refine AW.iconst (pc' := 26) dX12_findRace_25 ?_
  refine AW.istore3n (pc' := 27) dX12_findRace_26 (by decide) rfl ?_
  refine AW.weak (lp_X12_findRace hI (a := a) (b := b) (by first | assumption | omega | (constructor <;> omega) | (simp only [Int.toNat_natCast]; omega) | exact b2_in _) (by first | assumption | omega | (constructor <;> omega) | (simp only [Int.toNat_natCast]; omega) | exact b2_in _) hd (h 57 16).toNat 0 ((0, 0, 0, 0), 0) _ (by omega) (((((EP.rf.st rfl).st rfl).st rfl).st rfl).st rfl) (by unfold fld5; simp only [hset_app, Nat.reduceEqDiff, and_false, true_and, and_true, false_and, reduceIte]) ⟨⟨by decide, by decide, by decide, by decide, by decide, by decide, by decide⟩, by decide, by decide⟩ (fun h2 e2 t2 => ?_)) (by (repeat' first | exact LSub.e | refine LSub.n ?_ | refine LSub.c ?_ ?_) <;> first | rfl | exact congrArg Sum.inl (by first | rfl | omega | omega))
  refine AW.vret dX12_findRace_144 ?_ ?_
  · rfl
  · exact ⟨e2, t2⟩
