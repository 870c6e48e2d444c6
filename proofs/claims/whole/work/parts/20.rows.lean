/-! rows: a shelf holds a row, both -/
def zrR (row : Nat → Int) (f : Nat) (n : Int) (j : Nat) : Int := if f ≤ j ∧ (j : Int) < f + n then 0 else row j
def RP (s : Nat) (h : Hp) (b c : Int) (x : Hp) : Prop := EX [47, 49, 51 + s] h x ∧ (∀ j : Nat, x 47 j = upR (h 47) s b j) ∧ (∀ j : Nat, x 49 j = upR (h 49) s c j) ∧ ∀ j : Nat, x (51 + s) j = zrR (h (51 + s)) 0 c j
def RM (h : Hp) (a b c : Int) (x : Hp) : Prop := EX [86, 88, 89] h x ∧ (∀ j : Nat, x 86 j = upR (h 86) a.toNat b j) ∧ (∀ j : Nat, x 88 j = upR (h 88) a.toNat c j) ∧ ∀ j : Nat, x 89 j = zrR (h 89) (60 * a.toNat) c j
set_option maxRecDepth 100000 in
set_option maxHeartbeats 4000000 in
theorem lp_X8_holdRow0 {K : KT} {X : XT} {dep : Nat} {h : Hp} {b c : Int} (q0 : 0 ≤ c ∧ c ≤ 60)  : ∀ (m k : Nat) (h1 : Hp), (k : Int) + m = c → EX [51] h h1 → (∀ j : Nat, h1 51 j = zrR (h 51) 0 k j) → (∀ h2 : Hp, EX [51] h h2 → (∀ j : Nat, h2 51 j = zrR (h 51) 0 c j) → AW K X RX8 cX8_holdRow 5 none dep 46 [some (vR 46), some (vI (0)), some (vI (b)), some (vI (c)), none] [] h2) → AW K X RX8 cX8_holdRow 5 none dep 17 [some (vR 46), some (vI (0)), some (vI (b)), some (vI (c)), some (vI ((k : Int)))] [] h1 := by
  intro m
  induction m with
  | zero =>
    intro k h1 hk e1 t1 kk
    refine AW.iload (pc' := 19) dX8_holdRow_17 rfl ?_
    refine AW.iload_n (pc' := 20) dX8_holdRow_19 rfl ?_
    refine AW.icmp_ge (tgt := 46) (pc' := 23) dX8_holdRow_20 (by first | assumption | omega | (constructor <;> omega) | (simp only [Int.toNat_natCast]; omega) | exact b2_in _) (by first | assumption | omega | (constructor <;> omega) | (simp only [Int.toNat_natCast]; omega) | exact b2_in _) (fun c20 => ?_) (fun c20 => ?_)
    · exact AW.weak (kk h1 e1 (by rw [← hk]; simpa using t1)) (by (repeat' first | exact LSub.e | refine LSub.n ?_ | refine LSub.c ?_ ?_) <;> first | rfl | exact congrArg Sum.inl (by first | rfl | omega | omega))
    · omega
  | succ m ih =>
    intro k h1 hk e1 t1 kk
    refine AW.iload (pc' := 19) dX8_holdRow_17 rfl ?_
    refine AW.iload_n (pc' := 20) dX8_holdRow_19 rfl ?_
    refine AW.icmp_ge (tgt := 46) (pc' := 23) dX8_holdRow_20 (by first | assumption | omega | (constructor <;> omega) | (simp only [Int.toNat_natCast]; omega) | exact b2_in _) (by first | assumption | omega | (constructor <;> omega) | (simp only [Int.toNat_natCast]; omega) | exact b2_in _) (fun c20 => ?_) (fun c20 => ?_)
    · omega
    · refine AW.iload (pc' := 25) dX8_holdRow_23 rfl ?_
      refine AW.bipush (pc' := 27) dX8_holdRow_25 (by decide) ?_
      refine AW.icmp_ge (tgt := 46) (pc' := 30) dX8_holdRow_27 (by first | assumption | omega | (constructor <;> omega) | (simp only [Int.toNat_natCast]; omega) | exact b2_in _) (by first | assumption | omega | (constructor <;> omega) | (simp only [Int.toNat_natCast]; omega) | exact b2_in _) (fun c27 => ?_) (fun c27 => ?_)
      · omega
      · refine AW.aload_n (pc' := 31) dX8_holdRow_30 rfl ?_
        refine AW.getR (pc' := 34) dX8_holdRow_31 ly_46 fX8_23 rfl ?_
        refine AW.iload_n (pc' := 35) dX8_holdRow_34 rfl ?_
        refine AW.aaldL (t := 51) (pc' := 36) dX8_holdRow_35 ly_50 (by decide) (by decide) (by decide) rfl ?_
        refine AW.iload (pc' := 38) dX8_holdRow_36 rfl ?_
        refine AW.lconst_0 (pc' := 39) dX8_holdRow_38 ?_
        first | refine AW.lastN (pc' := 40) dX8_holdRow_39 ly_51 (by first | assumption | omega | (constructor <;> omega) | (simp only [Int.toNat_natCast]; omega) | exact b2_in _) (by decide) (by first | assumption | omega | (constructor <;> omega) | (simp only [Int.toNat_natCast]; omega) | exact b2_in _) ?_ | refine AW.last (pc' := 40) dX8_holdRow_39 ly_51 (by first | assumption | omega | (constructor <;> omega) | (simp only [Int.toNat_natCast]; omega) | exact b2_in _) (by first | assumption | omega | (constructor <;> omega) | (simp only [Int.toNat_natCast]; omega) | exact b2_in _) (by decide) (by first | assumption | omega | (constructor <;> omega) | (simp only [Int.toNat_natCast]; omega) | exact b2_in _) ?_
        refine AW.iinc4 (pc' := 43) dX8_holdRow_40 (by decide) rfl ?_
        refine AW.goto (tgt := 17) dX8_holdRow_43 ?_
        exact AW.weak (ih (k + 1) _ (by omega) (e1.st rfl) (fun j => by
            simp only [hset_app, true_and, t1 j, zrR]
            by_cases z : j = k
            · subst z; rw [if_pos rfl, if_pos (by omega)]
            · rw [if_neg z]
              by_cases y : 0 ≤ j ∧ (j : Int) < (0 : Nat) + (k : Int)
              · rw [if_pos y, if_pos (by push_cast; omega)]
              · rw [if_neg y, if_neg (by push_cast; omega)]) kk) (by (repeat' first | exact LSub.e | refine LSub.n ?_ | refine LSub.c ?_ ?_) <;> first | rfl | exact congrArg Sum.inl (by first | rfl | omega | omega))
set_option maxRecDepth 100000 in
set_option maxHeartbeats 4000000 in
theorem c_X8_holdRow0 {K : KT} {dep : Nat} {h : Hp} {b c : Int}  (q0 : 0 ≤ c ∧ c ≤ 60) (q1 : inI b) : AMp K yX8_holdRow cX8_holdRow 5 none dep [vR 46, vI 0, vI b, vI c] h none (RP 0 h b c) := by
  refine AM.of (own := RX8) (ls := [some (vR 46), some (vI 0), some (vI b), some (vI c), none]) rfl (by decide +kernel) (by exact Nat.le_of_ble_eq_true rfl) rfl (fun hO => ?_)
  refine AW.aload_n (pc' := 1) dX8_holdRow_0 rfl ?_
  refine AW.getR (pc' := 4) dX8_holdRow_1 ly_46 fX8_9 rfl ?_
  refine AW.iload_n (pc' := 5) dX8_holdRow_4 rfl ?_
  refine AW.iload_n (pc' := 6) dX8_holdRow_5 rfl ?_
  first | refine AW.iastN (pc' := 7) dX8_holdRow_6 ly_47 (by first | assumption | omega | (constructor <;> omega) | (simp only [Int.toNat_natCast]; omega) | exact b2_in _) (by decide) (by first | assumption | omega | (constructor <;> omega) | (simp only [Int.toNat_natCast]; omega) | exact b2_in _) ?_ | refine AW.iast (pc' := 7) dX8_holdRow_6 ly_47 (by first | assumption | omega | (constructor <;> omega) | (simp only [Int.toNat_natCast]; omega) | exact b2_in _) (by first | assumption | omega | (constructor <;> omega) | (simp only [Int.toNat_natCast]; omega) | exact b2_in _) (by decide) (by first | assumption | omega | (constructor <;> omega) | (simp only [Int.toNat_natCast]; omega) | exact b2_in _) ?_
  refine AW.aload_n (pc' := 8) dX8_holdRow_7 rfl ?_
  refine AW.getR (pc' := 11) dX8_holdRow_8 ly_46 fX8_18 rfl ?_
  refine AW.iload_n (pc' := 12) dX8_holdRow_11 rfl ?_
  refine AW.iload_n (pc' := 13) dX8_holdRow_12 rfl ?_
  first | refine AW.iastN (pc' := 14) dX8_holdRow_13 ly_49 (by first | assumption | omega | (constructor <;> omega) | (simp only [Int.toNat_natCast]; omega) | exact b2_in _) (by decide) (by first | assumption | omega | (constructor <;> omega) | (simp only [Int.toNat_natCast]; omega) | exact b2_in _) ?_ | refine AW.iast (pc' := 14) dX8_holdRow_13 ly_49 (by first | assumption | omega | (constructor <;> omega) | (simp only [Int.toNat_natCast]; omega) | exact b2_in _) (by first | assumption | omega | (constructor <;> omega) | (simp only [Int.toNat_natCast]; omega) | exact b2_in _) (by decide) (by first | assumption | omega | (constructor <;> omega) | (simp only [Int.toNat_natCast]; omega) | exact b2_in _) ?_
  obtain ⟨h3, gh3⟩ : ∃ z, z = hset (hset h 47 0 b) 49 0 c := ⟨_, rfl⟩
  try simp only [Int.reduceToNat]
  rw [← gh3]
  refine AW.iconst (pc' := 15) dX8_holdRow_14 ?_
  refine AW.istore4 (pc' := 17) dX8_holdRow_15 (by decide) rfl ?_
  refine AW.weak (lp_X8_holdRow0 (h := h3) q0 c.toNat 0 h3 (by omega) EX.rf (fun j => by unfold zrR; rw [if_neg (by omega)]) (fun h2 e2 t2 => ?_)) (by (repeat' first | exact LSub.e | refine LSub.n ?_ | refine LSub.c ?_ ?_) <;> first | rfl | exact congrArg Sum.inl (by first | rfl | omega | omega))
  refine AW.vret dX8_holdRow_46 ?_ ?_
  · rfl
  · have e3 : EX [47, 49] h h3 := by rw [gh3]; exact (EX.rf.st rfl).st rfl
    refine ⟨(e3.wd (fun k hk => by simp at hk ⊢; omega)).tr (e2.wd (fun k hk => by simp at hk ⊢; omega)), fun j => ?_, fun j => ?_, fun j => ?_⟩
    · rw [e2 47 rfl, gh3]; simp [hset_app, upR]
    · rw [e2 49 rfl, gh3]; simp [hset_app, upR]
    · rw [show 51 + 0 = 51 from rfl, t2 j, e3 51 rfl]
set_option maxRecDepth 100000 in
set_option maxHeartbeats 4000000 in
theorem lp_X8_holdRow1 {K : KT} {X : XT} {dep : Nat} {h : Hp} {b c : Int} (q0 : 0 ≤ c ∧ c ≤ 60)  : ∀ (m k : Nat) (h1 : Hp), (k : Int) + m = c → EX [52] h h1 → (∀ j : Nat, h1 52 j = zrR (h 52) 0 k j) → (∀ h2 : Hp, EX [52] h h2 → (∀ j : Nat, h2 52 j = zrR (h 52) 0 c j) → AW K X RX8 cX8_holdRow 5 none dep 46 [some (vR 46), some (vI (1)), some (vI (b)), some (vI (c)), none] [] h2) → AW K X RX8 cX8_holdRow 5 none dep 17 [some (vR 46), some (vI (1)), some (vI (b)), some (vI (c)), some (vI ((k : Int)))] [] h1 := by
  intro m
  induction m with
  | zero =>
    intro k h1 hk e1 t1 kk
    refine AW.iload (pc' := 19) dX8_holdRow_17 rfl ?_
    refine AW.iload_n (pc' := 20) dX8_holdRow_19 rfl ?_
    refine AW.icmp_ge (tgt := 46) (pc' := 23) dX8_holdRow_20 (by first | assumption | omega | (constructor <;> omega) | (simp only [Int.toNat_natCast]; omega) | exact b2_in _) (by first | assumption | omega | (constructor <;> omega) | (simp only [Int.toNat_natCast]; omega) | exact b2_in _) (fun c20 => ?_) (fun c20 => ?_)
    · exact AW.weak (kk h1 e1 (by rw [← hk]; simpa using t1)) (by (repeat' first | exact LSub.e | refine LSub.n ?_ | refine LSub.c ?_ ?_) <;> first | rfl | exact congrArg Sum.inl (by first | rfl | omega | omega))
    · omega
  | succ m ih =>
    intro k h1 hk e1 t1 kk
    refine AW.iload (pc' := 19) dX8_holdRow_17 rfl ?_
    refine AW.iload_n (pc' := 20) dX8_holdRow_19 rfl ?_
    refine AW.icmp_ge (tgt := 46) (pc' := 23) dX8_holdRow_20 (by first | assumption | omega | (constructor <;> omega) | (simp only [Int.toNat_natCast]; omega) | exact b2_in _) (by first | assumption | omega | (constructor <;> omega) | (simp only [Int.toNat_natCast]; omega) | exact b2_in _) (fun c20 => ?_) (fun c20 => ?_)
    · omega
    · refine AW.iload (pc' := 25) dX8_holdRow_23 rfl ?_
      refine AW.bipush (pc' := 27) dX8_holdRow_25 (by decide) ?_
      refine AW.icmp_ge (tgt := 46) (pc' := 30) dX8_holdRow_27 (by first | assumption | omega | (constructor <;> omega) | (simp only [Int.toNat_natCast]; omega) | exact b2_in _) (by first | assumption | omega | (constructor <;> omega) | (simp only [Int.toNat_natCast]; omega) | exact b2_in _) (fun c27 => ?_) (fun c27 => ?_)
      · omega
      · refine AW.aload_n (pc' := 31) dX8_holdRow_30 rfl ?_
        refine AW.getR (pc' := 34) dX8_holdRow_31 ly_46 fX8_23 rfl ?_
        refine AW.iload_n (pc' := 35) dX8_holdRow_34 rfl ?_
        refine AW.aaldL (t := 52) (pc' := 36) dX8_holdRow_35 ly_50 (by decide) (by decide) (by decide) rfl ?_
        refine AW.iload (pc' := 38) dX8_holdRow_36 rfl ?_
        refine AW.lconst_0 (pc' := 39) dX8_holdRow_38 ?_
        first | refine AW.lastN (pc' := 40) dX8_holdRow_39 ly_52 (by first | assumption | omega | (constructor <;> omega) | (simp only [Int.toNat_natCast]; omega) | exact b2_in _) (by decide) (by first | assumption | omega | (constructor <;> omega) | (simp only [Int.toNat_natCast]; omega) | exact b2_in _) ?_ | refine AW.last (pc' := 40) dX8_holdRow_39 ly_52 (by first | assumption | omega | (constructor <;> omega) | (simp only [Int.toNat_natCast]; omega) | exact b2_in _) (by first | assumption | omega | (constructor <;> omega) | (simp only [Int.toNat_natCast]; omega) | exact b2_in _) (by decide) (by first | assumption | omega | (constructor <;> omega) | (simp only [Int.toNat_natCast]; omega) | exact b2_in _) ?_
        refine AW.iinc4 (pc' := 43) dX8_holdRow_40 (by decide) rfl ?_
        refine AW.goto (tgt := 17) dX8_holdRow_43 ?_
        exact AW.weak (ih (k + 1) _ (by omega) (e1.st rfl) (fun j => by
            simp only [hset_app, true_and, t1 j, zrR]
            by_cases z : j = k
            · subst z; rw [if_pos rfl, if_pos (by omega)]
            · rw [if_neg z]
              by_cases y : 0 ≤ j ∧ (j : Int) < (0 : Nat) + (k : Int)
              · rw [if_pos y, if_pos (by push_cast; omega)]
              · rw [if_neg y, if_neg (by push_cast; omega)]) kk) (by (repeat' first | exact LSub.e | refine LSub.n ?_ | refine LSub.c ?_ ?_) <;> first | rfl | exact congrArg Sum.inl (by first | rfl | omega | omega))
set_option maxRecDepth 100000 in
set_option maxHeartbeats 4000000 in
theorem c_X8_holdRow1 {K : KT} {dep : Nat} {h : Hp} {b c : Int}  (q0 : 0 ≤ c ∧ c ≤ 60) (q1 : inI b) : AMp K yX8_holdRow cX8_holdRow 5 none dep [vR 46, vI 1, vI b, vI c] h none (RP 1 h b c) := by
  refine AM.of (own := RX8) (ls := [some (vR 46), some (vI 1), some (vI b), some (vI c), none]) rfl (by decide +kernel) (by exact Nat.le_of_ble_eq_true rfl) rfl (fun hO => ?_)
  refine AW.aload_n (pc' := 1) dX8_holdRow_0 rfl ?_
  refine AW.getR (pc' := 4) dX8_holdRow_1 ly_46 fX8_9 rfl ?_
  refine AW.iload_n (pc' := 5) dX8_holdRow_4 rfl ?_
  refine AW.iload_n (pc' := 6) dX8_holdRow_5 rfl ?_
  first | refine AW.iastN (pc' := 7) dX8_holdRow_6 ly_47 (by first | assumption | omega | (constructor <;> omega) | (simp only [Int.toNat_natCast]; omega) | exact b2_in _) (by decide) (by first | assumption | omega | (constructor <;> omega) | (simp only [Int.toNat_natCast]; omega) | exact b2_in _) ?_ | refine AW.iast (pc' := 7) dX8_holdRow_6 ly_47 (by first | assumption | omega | (constructor <;> omega) | (simp only [Int.toNat_natCast]; omega) | exact b2_in _) (by first | assumption | omega | (constructor <;> omega) | (simp only [Int.toNat_natCast]; omega) | exact b2_in _) (by decide) (by first | assumption | omega | (constructor <;> omega) | (simp only [Int.toNat_natCast]; omega) | exact b2_in _) ?_
  refine AW.aload_n (pc' := 8) dX8_holdRow_7 rfl ?_
  refine AW.getR (pc' := 11) dX8_holdRow_8 ly_46 fX8_18 rfl ?_
  refine AW.iload_n (pc' := 12) dX8_holdRow_11 rfl ?_
  refine AW.iload_n (pc' := 13) dX8_holdRow_12 rfl ?_
  first | refine AW.iastN (pc' := 14) dX8_holdRow_13 ly_49 (by first | assumption | omega | (constructor <;> omega) | (simp only [Int.toNat_natCast]; omega) | exact b2_in _) (by decide) (by first | assumption | omega | (constructor <;> omega) | (simp only [Int.toNat_natCast]; omega) | exact b2_in _) ?_ | refine AW.iast (pc' := 14) dX8_holdRow_13 ly_49 (by first | assumption | omega | (constructor <;> omega) | (simp only [Int.toNat_natCast]; omega) | exact b2_in _) (by first | assumption | omega | (constructor <;> omega) | (simp only [Int.toNat_natCast]; omega) | exact b2_in _) (by decide) (by first | assumption | omega | (constructor <;> omega) | (simp only [Int.toNat_natCast]; omega) | exact b2_in _) ?_
  obtain ⟨h3, gh3⟩ : ∃ z, z = hset (hset h 47 1 b) 49 1 c := ⟨_, rfl⟩
  try simp only [Int.reduceToNat]
  rw [← gh3]
  refine AW.iconst (pc' := 15) dX8_holdRow_14 ?_
  refine AW.istore4 (pc' := 17) dX8_holdRow_15 (by decide) rfl ?_
  refine AW.weak (lp_X8_holdRow1 (h := h3) q0 c.toNat 0 h3 (by omega) EX.rf (fun j => by unfold zrR; rw [if_neg (by omega)]) (fun h2 e2 t2 => ?_)) (by (repeat' first | exact LSub.e | refine LSub.n ?_ | refine LSub.c ?_ ?_) <;> first | rfl | exact congrArg Sum.inl (by first | rfl | omega | omega))
  refine AW.vret dX8_holdRow_46 ?_ ?_
  · rfl
  · have e3 : EX [47, 49] h h3 := by rw [gh3]; exact (EX.rf.st rfl).st rfl
    refine ⟨(e3.wd (fun k hk => by simp at hk ⊢; omega)).tr (e2.wd (fun k hk => by simp at hk ⊢; omega)), fun j => ?_, fun j => ?_, fun j => ?_⟩
    · rw [e2 47 rfl, gh3]; simp [hset_app, upR]
    · rw [e2 49 rfl, gh3]; simp [hset_app, upR]
    · rw [show 51 + 1 = 52 from rfl, t2 j, e3 52 rfl]
set_option maxRecDepth 100000 in
set_option maxHeartbeats 4000000 in
theorem lp_X8_holdRow2 {K : KT} {X : XT} {dep : Nat} {h : Hp} {b c : Int} (q0 : 0 ≤ c ∧ c ≤ 60)  : ∀ (m k : Nat) (h1 : Hp), (k : Int) + m = c → EX [53] h h1 → (∀ j : Nat, h1 53 j = zrR (h 53) 0 k j) → (∀ h2 : Hp, EX [53] h h2 → (∀ j : Nat, h2 53 j = zrR (h 53) 0 c j) → AW K X RX8 cX8_holdRow 5 none dep 46 [some (vR 46), some (vI (2)), some (vI (b)), some (vI (c)), none] [] h2) → AW K X RX8 cX8_holdRow 5 none dep 17 [some (vR 46), some (vI (2)), some (vI (b)), some (vI (c)), some (vI ((k : Int)))] [] h1 := by
  intro m
  induction m with
  | zero =>
    intro k h1 hk e1 t1 kk
    refine AW.iload (pc' := 19) dX8_holdRow_17 rfl ?_
    refine AW.iload_n (pc' := 20) dX8_holdRow_19 rfl ?_
    refine AW.icmp_ge (tgt := 46) (pc' := 23) dX8_holdRow_20 (by first | assumption | omega | (constructor <;> omega) | (simp only [Int.toNat_natCast]; omega) | exact b2_in _) (by first | assumption | omega | (constructor <;> omega) | (simp only [Int.toNat_natCast]; omega) | exact b2_in _) (fun c20 => ?_) (fun c20 => ?_)
    · exact AW.weak (kk h1 e1 (by rw [← hk]; simpa using t1)) (by (repeat' first | exact LSub.e | refine LSub.n ?_ | refine LSub.c ?_ ?_) <;> first | rfl | exact congrArg Sum.inl (by first | rfl | omega | omega))
    · omega
  | succ m ih =>
    intro k h1 hk e1 t1 kk
    refine AW.iload (pc' := 19) dX8_holdRow_17 rfl ?_
    refine AW.iload_n (pc' := 20) dX8_holdRow_19 rfl ?_
    refine AW.icmp_ge (tgt := 46) (pc' := 23) dX8_holdRow_20 (by first | assumption | omega | (constructor <;> omega) | (simp only [Int.toNat_natCast]; omega) | exact b2_in _) (by first | assumption | omega | (constructor <;> omega) | (simp only [Int.toNat_natCast]; omega) | exact b2_in _) (fun c20 => ?_) (fun c20 => ?_)
    · omega
    · refine AW.iload (pc' := 25) dX8_holdRow_23 rfl ?_
      refine AW.bipush (pc' := 27) dX8_holdRow_25 (by decide) ?_
      refine AW.icmp_ge (tgt := 46) (pc' := 30) dX8_holdRow_27 (by first | assumption | omega | (constructor <;> omega) | (simp only [Int.toNat_natCast]; omega) | exact b2_in _) (by first | assumption | omega | (constructor <;> omega) | (simp only [Int.toNat_natCast]; omega) | exact b2_in _) (fun c27 => ?_) (fun c27 => ?_)
      · omega
      · refine AW.aload_n (pc' := 31) dX8_holdRow_30 rfl ?_
        refine AW.getR (pc' := 34) dX8_holdRow_31 ly_46 fX8_23 rfl ?_
        refine AW.iload_n (pc' := 35) dX8_holdRow_34 rfl ?_
        refine AW.aaldL (t := 53) (pc' := 36) dX8_holdRow_35 ly_50 (by decide) (by decide) (by decide) rfl ?_
        refine AW.iload (pc' := 38) dX8_holdRow_36 rfl ?_
        refine AW.lconst_0 (pc' := 39) dX8_holdRow_38 ?_
        first | refine AW.lastN (pc' := 40) dX8_holdRow_39 ly_53 (by first | assumption | omega | (constructor <;> omega) | (simp only [Int.toNat_natCast]; omega) | exact b2_in _) (by decide) (by first | assumption | omega | (constructor <;> omega) | (simp only [Int.toNat_natCast]; omega) | exact b2_in _) ?_ | refine AW.last (pc' := 40) dX8_holdRow_39 ly_53 (by first | assumption | omega | (constructor <;> omega) | (simp only [Int.toNat_natCast]; omega) | exact b2_in _) (by first | assumption | omega | (constructor <;> omega) | (simp only [Int.toNat_natCast]; omega) | exact b2_in _) (by decide) (by first | assumption | omega | (constructor <;> omega) | (simp only [Int.toNat_natCast]; omega) | exact b2_in _) ?_
        refine AW.iinc4 (pc' := 43) dX8_holdRow_40 (by decide) rfl ?_
        refine AW.goto (tgt := 17) dX8_holdRow_43 ?_
        exact AW.weak (ih (k + 1) _ (by omega) (e1.st rfl) (fun j => by
            simp only [hset_app, true_and, t1 j, zrR]
            by_cases z : j = k
            · subst z; rw [if_pos rfl, if_pos (by omega)]
            · rw [if_neg z]
              by_cases y : 0 ≤ j ∧ (j : Int) < (0 : Nat) + (k : Int)
              · rw [if_pos y, if_pos (by push_cast; omega)]
              · rw [if_neg y, if_neg (by push_cast; omega)]) kk) (by (repeat' first | exact LSub.e | refine LSub.n ?_ | refine LSub.c ?_ ?_) <;> first | rfl | exact congrArg Sum.inl (by first | rfl | omega | omega))
set_option maxRecDepth 100000 in
set_option maxHeartbeats 4000000 in
theorem c_X8_holdRow2 {K : KT} {dep : Nat} {h : Hp} {b c : Int}  (q0 : 0 ≤ c ∧ c ≤ 60) (q1 : inI b) : AMp K yX8_holdRow cX8_holdRow 5 none dep [vR 46, vI 2, vI b, vI c] h none (RP 2 h b c) := by
  refine AM.of (own := RX8) (ls := [some (vR 46), some (vI 2), some (vI b), some (vI c), none]) rfl (by decide +kernel) (by exact Nat.le_of_ble_eq_true rfl) rfl (fun hO => ?_)
  refine AW.aload_n (pc' := 1) dX8_holdRow_0 rfl ?_
  refine AW.getR (pc' := 4) dX8_holdRow_1 ly_46 fX8_9 rfl ?_
  refine AW.iload_n (pc' := 5) dX8_holdRow_4 rfl ?_
  refine AW.iload_n (pc' := 6) dX8_holdRow_5 rfl ?_
  first | refine AW.iastN (pc' := 7) dX8_holdRow_6 ly_47 (by first | assumption | omega | (constructor <;> omega) | (simp only [Int.toNat_natCast]; omega) | exact b2_in _) (by decide) (by first | assumption | omega | (constructor <;> omega) | (simp only [Int.toNat_natCast]; omega) | exact b2_in _) ?_ | refine AW.iast (pc' := 7) dX8_holdRow_6 ly_47 (by first | assumption | omega | (constructor <;> omega) | (simp only [Int.toNat_natCast]; omega) | exact b2_in _) (by first | assumption | omega | (constructor <;> omega) | (simp only [Int.toNat_natCast]; omega) | exact b2_in _) (by decide) (by first | assumption | omega | (constructor <;> omega) | (simp only [Int.toNat_natCast]; omega) | exact b2_in _) ?_
  refine AW.aload_n (pc' := 8) dX8_holdRow_7 rfl ?_
  refine AW.getR (pc' := 11) dX8_holdRow_8 ly_46 fX8_18 rfl ?_
  refine AW.iload_n (pc' := 12) dX8_holdRow_11 rfl ?_
  refine AW.iload_n (pc' := 13) dX8_holdRow_12 rfl ?_
  first | refine AW.iastN (pc' := 14) dX8_holdRow_13 ly_49 (by first | assumption | omega | (constructor <;> omega) | (simp only [Int.toNat_natCast]; omega) | exact b2_in _) (by decide) (by first | assumption | omega | (constructor <;> omega) | (simp only [Int.toNat_natCast]; omega) | exact b2_in _) ?_ | refine AW.iast (pc' := 14) dX8_holdRow_13 ly_49 (by first | assumption | omega | (constructor <;> omega) | (simp only [Int.toNat_natCast]; omega) | exact b2_in _) (by first | assumption | omega | (constructor <;> omega) | (simp only [Int.toNat_natCast]; omega) | exact b2_in _) (by decide) (by first | assumption | omega | (constructor <;> omega) | (simp only [Int.toNat_natCast]; omega) | exact b2_in _) ?_
  obtain ⟨h3, gh3⟩ : ∃ z, z = hset (hset h 47 2 b) 49 2 c := ⟨_, rfl⟩
  try simp only [Int.reduceToNat]
  rw [← gh3]
  refine AW.iconst (pc' := 15) dX8_holdRow_14 ?_
  refine AW.istore4 (pc' := 17) dX8_holdRow_15 (by decide) rfl ?_
  refine AW.weak (lp_X8_holdRow2 (h := h3) q0 c.toNat 0 h3 (by omega) EX.rf (fun j => by unfold zrR; rw [if_neg (by omega)]) (fun h2 e2 t2 => ?_)) (by (repeat' first | exact LSub.e | refine LSub.n ?_ | refine LSub.c ?_ ?_) <;> first | rfl | exact congrArg Sum.inl (by first | rfl | omega | omega))
  refine AW.vret dX8_holdRow_46 ?_ ?_
  · rfl
  · have e3 : EX [47, 49] h h3 := by rw [gh3]; exact (EX.rf.st rfl).st rfl
    refine ⟨(e3.wd (fun k hk => by simp at hk ⊢; omega)).tr (e2.wd (fun k hk => by simp at hk ⊢; omega)), fun j => ?_, fun j => ?_, fun j => ?_⟩
    · rw [e2 47 rfl, gh3]; simp [hset_app, upR]
    · rw [e2 49 rfl, gh3]; simp [hset_app, upR]
    · rw [show 51 + 2 = 53 from rfl, t2 j, e3 53 rfl]
set_option maxRecDepth 100000 in
set_option maxHeartbeats 4000000 in
theorem lp_X8_holdRow3 {K : KT} {X : XT} {dep : Nat} {h : Hp} {b c : Int} (q0 : 0 ≤ c ∧ c ≤ 60)  : ∀ (m k : Nat) (h1 : Hp), (k : Int) + m = c → EX [54] h h1 → (∀ j : Nat, h1 54 j = zrR (h 54) 0 k j) → (∀ h2 : Hp, EX [54] h h2 → (∀ j : Nat, h2 54 j = zrR (h 54) 0 c j) → AW K X RX8 cX8_holdRow 5 none dep 46 [some (vR 46), some (vI (3)), some (vI (b)), some (vI (c)), none] [] h2) → AW K X RX8 cX8_holdRow 5 none dep 17 [some (vR 46), some (vI (3)), some (vI (b)), some (vI (c)), some (vI ((k : Int)))] [] h1 := by
  intro m
  induction m with
  | zero =>
    intro k h1 hk e1 t1 kk
    refine AW.iload (pc' := 19) dX8_holdRow_17 rfl ?_
    refine AW.iload_n (pc' := 20) dX8_holdRow_19 rfl ?_
    refine AW.icmp_ge (tgt := 46) (pc' := 23) dX8_holdRow_20 (by first | assumption | omega | (constructor <;> omega) | (simp only [Int.toNat_natCast]; omega) | exact b2_in _) (by first | assumption | omega | (constructor <;> omega) | (simp only [Int.toNat_natCast]; omega) | exact b2_in _) (fun c20 => ?_) (fun c20 => ?_)
    · exact AW.weak (kk h1 e1 (by rw [← hk]; simpa using t1)) (by (repeat' first | exact LSub.e | refine LSub.n ?_ | refine LSub.c ?_ ?_) <;> first | rfl | exact congrArg Sum.inl (by first | rfl | omega | omega))
    · omega
  | succ m ih =>
    intro k h1 hk e1 t1 kk
    refine AW.iload (pc' := 19) dX8_holdRow_17 rfl ?_
    refine AW.iload_n (pc' := 20) dX8_holdRow_19 rfl ?_
    refine AW.icmp_ge (tgt := 46) (pc' := 23) dX8_holdRow_20 (by first | assumption | omega | (constructor <;> omega) | (simp only [Int.toNat_natCast]; omega) | exact b2_in _) (by first | assumption | omega | (constructor <;> omega) | (simp only [Int.toNat_natCast]; omega) | exact b2_in _) (fun c20 => ?_) (fun c20 => ?_)
    · omega
    · refine AW.iload (pc' := 25) dX8_holdRow_23 rfl ?_
      refine AW.bipush (pc' := 27) dX8_holdRow_25 (by decide) ?_
      refine AW.icmp_ge (tgt := 46) (pc' := 30) dX8_holdRow_27 (by first | assumption | omega | (constructor <;> omega) | (simp only [Int.toNat_natCast]; omega) | exact b2_in _) (by first | assumption | omega | (constructor <;> omega) | (simp only [Int.toNat_natCast]; omega) | exact b2_in _) (fun c27 => ?_) (fun c27 => ?_)
      · omega
      · refine AW.aload_n (pc' := 31) dX8_holdRow_30 rfl ?_
        refine AW.getR (pc' := 34) dX8_holdRow_31 ly_46 fX8_23 rfl ?_
        refine AW.iload_n (pc' := 35) dX8_holdRow_34 rfl ?_
        refine AW.aaldL (t := 54) (pc' := 36) dX8_holdRow_35 ly_50 (by decide) (by decide) (by decide) rfl ?_
        refine AW.iload (pc' := 38) dX8_holdRow_36 rfl ?_
        refine AW.lconst_0 (pc' := 39) dX8_holdRow_38 ?_
        first | refine AW.lastN (pc' := 40) dX8_holdRow_39 ly_54 (by first | assumption | omega | (constructor <;> omega) | (simp only [Int.toNat_natCast]; omega) | exact b2_in _) (by decide) (by first | assumption | omega | (constructor <;> omega) | (simp only [Int.toNat_natCast]; omega) | exact b2_in _) ?_ | refine AW.last (pc' := 40) dX8_holdRow_39 ly_54 (by first | assumption | omega | (constructor <;> omega) | (simp only [Int.toNat_natCast]; omega) | exact b2_in _) (by first | assumption | omega | (constructor <;> omega) | (simp only [Int.toNat_natCast]; omega) | exact b2_in _) (by decide) (by first | assumption | omega | (constructor <;> omega) | (simp only [Int.toNat_natCast]; omega) | exact b2_in _) ?_
        refine AW.iinc4 (pc' := 43) dX8_holdRow_40 (by decide) rfl ?_
        refine AW.goto (tgt := 17) dX8_holdRow_43 ?_
        exact AW.weak (ih (k + 1) _ (by omega) (e1.st rfl) (fun j => by
            simp only [hset_app, true_and, t1 j, zrR]
            by_cases z : j = k
            · subst z; rw [if_pos rfl, if_pos (by omega)]
            · rw [if_neg z]
              by_cases y : 0 ≤ j ∧ (j : Int) < (0 : Nat) + (k : Int)
              · rw [if_pos y, if_pos (by push_cast; omega)]
              · rw [if_neg y, if_neg (by push_cast; omega)]) kk) (by (repeat' first | exact LSub.e | refine LSub.n ?_ | refine LSub.c ?_ ?_) <;> first | rfl | exact congrArg Sum.inl (by first | rfl | omega | omega))
set_option maxRecDepth 100000 in
set_option maxHeartbeats 4000000 in
theorem c_X8_holdRow3 {K : KT} {dep : Nat} {h : Hp} {b c : Int}  (q0 : 0 ≤ c ∧ c ≤ 60) (q1 : inI b) : AMp K yX8_holdRow cX8_holdRow 5 none dep [vR 46, vI 3, vI b, vI c] h none (RP 3 h b c) := by
  refine AM.of (own := RX8) (ls := [some (vR 46), some (vI 3), some (vI b), some (vI c), none]) rfl (by decide +kernel) (by exact Nat.le_of_ble_eq_true rfl) rfl (fun hO => ?_)
  refine AW.aload_n (pc' := 1) dX8_holdRow_0 rfl ?_
  refine AW.getR (pc' := 4) dX8_holdRow_1 ly_46 fX8_9 rfl ?_
  refine AW.iload_n (pc' := 5) dX8_holdRow_4 rfl ?_
  refine AW.iload_n (pc' := 6) dX8_holdRow_5 rfl ?_
  first | refine AW.iastN (pc' := 7) dX8_holdRow_6 ly_47 (by first | assumption | omega | (constructor <;> omega) | (simp only [Int.toNat_natCast]; omega) | exact b2_in _) (by decide) (by first | assumption | omega | (constructor <;> omega) | (simp only [Int.toNat_natCast]; omega) | exact b2_in _) ?_ | refine AW.iast (pc' := 7) dX8_holdRow_6 ly_47 (by first | assumption | omega | (constructor <;> omega) | (simp only [Int.toNat_natCast]; omega) | exact b2_in _) (by first | assumption | omega | (constructor <;> omega) | (simp only [Int.toNat_natCast]; omega) | exact b2_in _) (by decide) (by first | assumption | omega | (constructor <;> omega) | (simp only [Int.toNat_natCast]; omega) | exact b2_in _) ?_
  refine AW.aload_n (pc' := 8) dX8_holdRow_7 rfl ?_
  refine AW.getR (pc' := 11) dX8_holdRow_8 ly_46 fX8_18 rfl ?_
  refine AW.iload_n (pc' := 12) dX8_holdRow_11 rfl ?_
  refine AW.iload_n (pc' := 13) dX8_holdRow_12 rfl ?_
  first | refine AW.iastN (pc' := 14) dX8_holdRow_13 ly_49 (by first | assumption | omega | (constructor <;> omega) | (simp only [Int.toNat_natCast]; omega) | exact b2_in _) (by decide) (by first | assumption | omega | (constructor <;> omega) | (simp only [Int.toNat_natCast]; omega) | exact b2_in _) ?_ | refine AW.iast (pc' := 14) dX8_holdRow_13 ly_49 (by first | assumption | omega | (constructor <;> omega) | (simp only [Int.toNat_natCast]; omega) | exact b2_in _) (by first | assumption | omega | (constructor <;> omega) | (simp only [Int.toNat_natCast]; omega) | exact b2_in _) (by decide) (by first | assumption | omega | (constructor <;> omega) | (simp only [Int.toNat_natCast]; omega) | exact b2_in _) ?_
  obtain ⟨h3, gh3⟩ : ∃ z, z = hset (hset h 47 3 b) 49 3 c := ⟨_, rfl⟩
  try simp only [Int.reduceToNat]
  rw [← gh3]
  refine AW.iconst (pc' := 15) dX8_holdRow_14 ?_
  refine AW.istore4 (pc' := 17) dX8_holdRow_15 (by decide) rfl ?_
  refine AW.weak (lp_X8_holdRow3 (h := h3) q0 c.toNat 0 h3 (by omega) EX.rf (fun j => by unfold zrR; rw [if_neg (by omega)]) (fun h2 e2 t2 => ?_)) (by (repeat' first | exact LSub.e | refine LSub.n ?_ | refine LSub.c ?_ ?_) <;> first | rfl | exact congrArg Sum.inl (by first | rfl | omega | omega))
  refine AW.vret dX8_holdRow_46 ?_ ?_
  · rfl
  · have e3 : EX [47, 49] h h3 := by rw [gh3]; exact (EX.rf.st rfl).st rfl
    refine ⟨(e3.wd (fun k hk => by simp at hk ⊢; omega)).tr (e2.wd (fun k hk => by simp at hk ⊢; omega)), fun j => ?_, fun j => ?_, fun j => ?_⟩
    · rw [e2 47 rfl, gh3]; simp [hset_app, upR]
    · rw [e2 49 rfl, gh3]; simp [hset_app, upR]
    · rw [show 51 + 3 = 54 from rfl, t2 j, e3 54 rfl]
set_option maxRecDepth 100000 in
set_option maxHeartbeats 4000000 in
theorem lp_X8_holdRow4 {K : KT} {X : XT} {dep : Nat} {h : Hp} {b c : Int} (q0 : 0 ≤ c ∧ c ≤ 60)  : ∀ (m k : Nat) (h1 : Hp), (k : Int) + m = c → EX [55] h h1 → (∀ j : Nat, h1 55 j = zrR (h 55) 0 k j) → (∀ h2 : Hp, EX [55] h h2 → (∀ j : Nat, h2 55 j = zrR (h 55) 0 c j) → AW K X RX8 cX8_holdRow 5 none dep 46 [some (vR 46), some (vI (4)), some (vI (b)), some (vI (c)), none] [] h2) → AW K X RX8 cX8_holdRow 5 none dep 17 [some (vR 46), some (vI (4)), some (vI (b)), some (vI (c)), some (vI ((k : Int)))] [] h1 := by
  intro m
  induction m with
  | zero =>
    intro k h1 hk e1 t1 kk
    refine AW.iload (pc' := 19) dX8_holdRow_17 rfl ?_
    refine AW.iload_n (pc' := 20) dX8_holdRow_19 rfl ?_
    refine AW.icmp_ge (tgt := 46) (pc' := 23) dX8_holdRow_20 (by first | assumption | omega | (constructor <;> omega) | (simp only [Int.toNat_natCast]; omega) | exact b2_in _) (by first | assumption | omega | (constructor <;> omega) | (simp only [Int.toNat_natCast]; omega) | exact b2_in _) (fun c20 => ?_) (fun c20 => ?_)
    · exact AW.weak (kk h1 e1 (by rw [← hk]; simpa using t1)) (by (repeat' first | exact LSub.e | refine LSub.n ?_ | refine LSub.c ?_ ?_) <;> first | rfl | exact congrArg Sum.inl (by first | rfl | omega | omega))
    · omega
  | succ m ih =>
    intro k h1 hk e1 t1 kk
    refine AW.iload (pc' := 19) dX8_holdRow_17 rfl ?_
    refine AW.iload_n (pc' := 20) dX8_holdRow_19 rfl ?_
    refine AW.icmp_ge (tgt := 46) (pc' := 23) dX8_holdRow_20 (by first | assumption | omega | (constructor <;> omega) | (simp only [Int.toNat_natCast]; omega) | exact b2_in _) (by first | assumption | omega | (constructor <;> omega) | (simp only [Int.toNat_natCast]; omega) | exact b2_in _) (fun c20 => ?_) (fun c20 => ?_)
    · omega
    · refine AW.iload (pc' := 25) dX8_holdRow_23 rfl ?_
      refine AW.bipush (pc' := 27) dX8_holdRow_25 (by decide) ?_
      refine AW.icmp_ge (tgt := 46) (pc' := 30) dX8_holdRow_27 (by first | assumption | omega | (constructor <;> omega) | (simp only [Int.toNat_natCast]; omega) | exact b2_in _) (by first | assumption | omega | (constructor <;> omega) | (simp only [Int.toNat_natCast]; omega) | exact b2_in _) (fun c27 => ?_) (fun c27 => ?_)
      · omega
      · refine AW.aload_n (pc' := 31) dX8_holdRow_30 rfl ?_
        refine AW.getR (pc' := 34) dX8_holdRow_31 ly_46 fX8_23 rfl ?_
        refine AW.iload_n (pc' := 35) dX8_holdRow_34 rfl ?_
        refine AW.aaldL (t := 55) (pc' := 36) dX8_holdRow_35 ly_50 (by decide) (by decide) (by decide) rfl ?_
        refine AW.iload (pc' := 38) dX8_holdRow_36 rfl ?_
        refine AW.lconst_0 (pc' := 39) dX8_holdRow_38 ?_
        first | refine AW.lastN (pc' := 40) dX8_holdRow_39 ly_55 (by first | assumption | omega | (constructor <;> omega) | (simp only [Int.toNat_natCast]; omega) | exact b2_in _) (by decide) (by first | assumption | omega | (constructor <;> omega) | (simp only [Int.toNat_natCast]; omega) | exact b2_in _) ?_ | refine AW.last (pc' := 40) dX8_holdRow_39 ly_55 (by first | assumption | omega | (constructor <;> omega) | (simp only [Int.toNat_natCast]; omega) | exact b2_in _) (by first | assumption | omega | (constructor <;> omega) | (simp only [Int.toNat_natCast]; omega) | exact b2_in _) (by decide) (by first | assumption | omega | (constructor <;> omega) | (simp only [Int.toNat_natCast]; omega) | exact b2_in _) ?_
        refine AW.iinc4 (pc' := 43) dX8_holdRow_40 (by decide) rfl ?_
        refine AW.goto (tgt := 17) dX8_holdRow_43 ?_
        exact AW.weak (ih (k + 1) _ (by omega) (e1.st rfl) (fun j => by
            simp only [hset_app, true_and, t1 j, zrR]
            by_cases z : j = k
            · subst z; rw [if_pos rfl, if_pos (by omega)]
            · rw [if_neg z]
              by_cases y : 0 ≤ j ∧ (j : Int) < (0 : Nat) + (k : Int)
              · rw [if_pos y, if_pos (by push_cast; omega)]
              · rw [if_neg y, if_neg (by push_cast; omega)]) kk) (by (repeat' first | exact LSub.e | refine LSub.n ?_ | refine LSub.c ?_ ?_) <;> first | rfl | exact congrArg Sum.inl (by first | rfl | omega | omega))
set_option maxRecDepth 100000 in
set_option maxHeartbeats 4000000 in
theorem c_X8_holdRow4 {K : KT} {dep : Nat} {h : Hp} {b c : Int}  (q0 : 0 ≤ c ∧ c ≤ 60) (q1 : inI b) : AMp K yX8_holdRow cX8_holdRow 5 none dep [vR 46, vI 4, vI b, vI c] h none (RP 4 h b c) := by
  refine AM.of (own := RX8) (ls := [some (vR 46), some (vI 4), some (vI b), some (vI c), none]) rfl (by decide +kernel) (by exact Nat.le_of_ble_eq_true rfl) rfl (fun hO => ?_)
  refine AW.aload_n (pc' := 1) dX8_holdRow_0 rfl ?_
  refine AW.getR (pc' := 4) dX8_holdRow_1 ly_46 fX8_9 rfl ?_
  refine AW.iload_n (pc' := 5) dX8_holdRow_4 rfl ?_
  refine AW.iload_n (pc' := 6) dX8_holdRow_5 rfl ?_
  first | refine AW.iastN (pc' := 7) dX8_holdRow_6 ly_47 (by first | assumption | omega | (constructor <;> omega) | (simp only [Int.toNat_natCast]; omega) | exact b2_in _) (by decide) (by first | assumption | omega | (constructor <;> omega) | (simp only [Int.toNat_natCast]; omega) | exact b2_in _) ?_ | refine AW.iast (pc' := 7) dX8_holdRow_6 ly_47 (by first | assumption | omega | (constructor <;> omega) | (simp only [Int.toNat_natCast]; omega) | exact b2_in _) (by first | assumption | omega | (constructor <;> omega) | (simp only [Int.toNat_natCast]; omega) | exact b2_in _) (by decide) (by first | assumption | omega | (constructor <;> omega) | (simp only [Int.toNat_natCast]; omega) | exact b2_in _) ?_
  refine AW.aload_n (pc' := 8) dX8_holdRow_7 rfl ?_
  refine AW.getR (pc' := 11) dX8_holdRow_8 ly_46 fX8_18 rfl ?_
  refine AW.iload_n (pc' := 12) dX8_holdRow_11 rfl ?_
  refine AW.iload_n (pc' := 13) dX8_holdRow_12 rfl ?_
  first | refine AW.iastN (pc' := 14) dX8_holdRow_13 ly_49 (by first | assumption | omega | (constructor <;> omega) | (simp only [Int.toNat_natCast]; omega) | exact b2_in _) (by decide) (by first | assumption | omega | (constructor <;> omega) | (simp only [Int.toNat_natCast]; omega) | exact b2_in _) ?_ | refine AW.iast (pc' := 14) dX8_holdRow_13 ly_49 (by first | assumption | omega | (constructor <;> omega) | (simp only [Int.toNat_natCast]; omega) | exact b2_in _) (by first | assumption | omega | (constructor <;> omega) | (simp only [Int.toNat_natCast]; omega) | exact b2_in _) (by decide) (by first | assumption | omega | (constructor <;> omega) | (simp only [Int.toNat_natCast]; omega) | exact b2_in _) ?_
  obtain ⟨h3, gh3⟩ : ∃ z, z = hset (hset h 47 4 b) 49 4 c := ⟨_, rfl⟩
  try simp only [Int.reduceToNat]
  rw [← gh3]
  refine AW.iconst (pc' := 15) dX8_holdRow_14 ?_
  refine AW.istore4 (pc' := 17) dX8_holdRow_15 (by decide) rfl ?_
  refine AW.weak (lp_X8_holdRow4 (h := h3) q0 c.toNat 0 h3 (by omega) EX.rf (fun j => by unfold zrR; rw [if_neg (by omega)]) (fun h2 e2 t2 => ?_)) (by (repeat' first | exact LSub.e | refine LSub.n ?_ | refine LSub.c ?_ ?_) <;> first | rfl | exact congrArg Sum.inl (by first | rfl | omega | omega))
  refine AW.vret dX8_holdRow_46 ?_ ?_
  · rfl
  · have e3 : EX [47, 49] h h3 := by rw [gh3]; exact (EX.rf.st rfl).st rfl
    refine ⟨(e3.wd (fun k hk => by simp at hk ⊢; omega)).tr (e2.wd (fun k hk => by simp at hk ⊢; omega)), fun j => ?_, fun j => ?_, fun j => ?_⟩
    · rw [e2 47 rfl, gh3]; simp [hset_app, upR]
    · rw [e2 49 rfl, gh3]; simp [hset_app, upR]
    · rw [show 51 + 4 = 55 from rfl, t2 j, e3 55 rfl]
set_option maxRecDepth 100000 in
set_option maxHeartbeats 4000000 in
theorem lp_X8_holdRow5 {K : KT} {X : XT} {dep : Nat} {h : Hp} {b c : Int} (q0 : 0 ≤ c ∧ c ≤ 60)  : ∀ (m k : Nat) (h1 : Hp), (k : Int) + m = c → EX [56] h h1 → (∀ j : Nat, h1 56 j = zrR (h 56) 0 k j) → (∀ h2 : Hp, EX [56] h h2 → (∀ j : Nat, h2 56 j = zrR (h 56) 0 c j) → AW K X RX8 cX8_holdRow 5 none dep 46 [some (vR 46), some (vI (5)), some (vI (b)), some (vI (c)), none] [] h2) → AW K X RX8 cX8_holdRow 5 none dep 17 [some (vR 46), some (vI (5)), some (vI (b)), some (vI (c)), some (vI ((k : Int)))] [] h1 := by
  intro m
  induction m with
  | zero =>
    intro k h1 hk e1 t1 kk
    refine AW.iload (pc' := 19) dX8_holdRow_17 rfl ?_
    refine AW.iload_n (pc' := 20) dX8_holdRow_19 rfl ?_
    refine AW.icmp_ge (tgt := 46) (pc' := 23) dX8_holdRow_20 (by first | assumption | omega | (constructor <;> omega) | (simp only [Int.toNat_natCast]; omega) | exact b2_in _) (by first | assumption | omega | (constructor <;> omega) | (simp only [Int.toNat_natCast]; omega) | exact b2_in _) (fun c20 => ?_) (fun c20 => ?_)
    · exact AW.weak (kk h1 e1 (by rw [← hk]; simpa using t1)) (by (repeat' first | exact LSub.e | refine LSub.n ?_ | refine LSub.c ?_ ?_) <;> first | rfl | exact congrArg Sum.inl (by first | rfl | omega | omega))
    · omega
  | succ m ih =>
    intro k h1 hk e1 t1 kk
    refine AW.iload (pc' := 19) dX8_holdRow_17 rfl ?_
    refine AW.iload_n (pc' := 20) dX8_holdRow_19 rfl ?_
    refine AW.icmp_ge (tgt := 46) (pc' := 23) dX8_holdRow_20 (by first | assumption | omega | (constructor <;> omega) | (simp only [Int.toNat_natCast]; omega) | exact b2_in _) (by first | assumption | omega | (constructor <;> omega) | (simp only [Int.toNat_natCast]; omega) | exact b2_in _) (fun c20 => ?_) (fun c20 => ?_)
    · omega
    · refine AW.iload (pc' := 25) dX8_holdRow_23 rfl ?_
      refine AW.bipush (pc' := 27) dX8_holdRow_25 (by decide) ?_
      refine AW.icmp_ge (tgt := 46) (pc' := 30) dX8_holdRow_27 (by first | assumption | omega | (constructor <;> omega) | (simp only [Int.toNat_natCast]; omega) | exact b2_in _) (by first | assumption | omega | (constructor <;> omega) | (simp only [Int.toNat_natCast]; omega) | exact b2_in _) (fun c27 => ?_) (fun c27 => ?_)
      · omega
      · refine AW.aload_n (pc' := 31) dX8_holdRow_30 rfl ?_
        refine AW.getR (pc' := 34) dX8_holdRow_31 ly_46 fX8_23 rfl ?_
        refine AW.iload_n (pc' := 35) dX8_holdRow_34 rfl ?_
        refine AW.aaldL (t := 56) (pc' := 36) dX8_holdRow_35 ly_50 (by decide) (by decide) (by decide) rfl ?_
        refine AW.iload (pc' := 38) dX8_holdRow_36 rfl ?_
        refine AW.lconst_0 (pc' := 39) dX8_holdRow_38 ?_
        first | refine AW.lastN (pc' := 40) dX8_holdRow_39 ly_56 (by first | assumption | omega | (constructor <;> omega) | (simp only [Int.toNat_natCast]; omega) | exact b2_in _) (by decide) (by first | assumption | omega | (constructor <;> omega) | (simp only [Int.toNat_natCast]; omega) | exact b2_in _) ?_ | refine AW.last (pc' := 40) dX8_holdRow_39 ly_56 (by first | assumption | omega | (constructor <;> omega) | (simp only [Int.toNat_natCast]; omega) | exact b2_in _) (by first | assumption | omega | (constructor <;> omega) | (simp only [Int.toNat_natCast]; omega) | exact b2_in _) (by decide) (by first | assumption | omega | (constructor <;> omega) | (simp only [Int.toNat_natCast]; omega) | exact b2_in _) ?_
        refine AW.iinc4 (pc' := 43) dX8_holdRow_40 (by decide) rfl ?_
        refine AW.goto (tgt := 17) dX8_holdRow_43 ?_
        exact AW.weak (ih (k + 1) _ (by omega) (e1.st rfl) (fun j => by
            simp only [hset_app, true_and, t1 j, zrR]
            by_cases z : j = k
            · subst z; rw [if_pos rfl, if_pos (by omega)]
            · rw [if_neg z]
              by_cases y : 0 ≤ j ∧ (j : Int) < (0 : Nat) + (k : Int)
              · rw [if_pos y, if_pos (by push_cast; omega)]
              · rw [if_neg y, if_neg (by push_cast; omega)]) kk) (by (repeat' first | exact LSub.e | refine LSub.n ?_ | refine LSub.c ?_ ?_) <;> first | rfl | exact congrArg Sum.inl (by first | rfl | omega | omega))
set_option maxRecDepth 100000 in
set_option maxHeartbeats 4000000 in
theorem c_X8_holdRow5 {K : KT} {dep : Nat} {h : Hp} {b c : Int}  (q0 : 0 ≤ c ∧ c ≤ 60) (q1 : inI b) : AMp K yX8_holdRow cX8_holdRow 5 none dep [vR 46, vI 5, vI b, vI c] h none (RP 5 h b c) := by
  refine AM.of (own := RX8) (ls := [some (vR 46), some (vI 5), some (vI b), some (vI c), none]) rfl (by decide +kernel) (by exact Nat.le_of_ble_eq_true rfl) rfl (fun hO => ?_)
  refine AW.aload_n (pc' := 1) dX8_holdRow_0 rfl ?_
  refine AW.getR (pc' := 4) dX8_holdRow_1 ly_46 fX8_9 rfl ?_
  refine AW.iload_n (pc' := 5) dX8_holdRow_4 rfl ?_
  refine AW.iload_n (pc' := 6) dX8_holdRow_5 rfl ?_
  first | refine AW.iastN (pc' := 7) dX8_holdRow_6 ly_47 (by first | assumption | omega | (constructor <;> omega) | (simp only [Int.toNat_natCast]; omega) | exact b2_in _) (by decide) (by first | assumption | omega | (constructor <;> omega) | (simp only [Int.toNat_natCast]; omega) | exact b2_in _) ?_ | refine AW.iast (pc' := 7) dX8_holdRow_6 ly_47 (by first | assumption | omega | (constructor <;> omega) | (simp only [Int.toNat_natCast]; omega) | exact b2_in _) (by first | assumption | omega | (constructor <;> omega) | (simp only [Int.toNat_natCast]; omega) | exact b2_in _) (by decide) (by first | assumption | omega | (constructor <;> omega) | (simp only [Int.toNat_natCast]; omega) | exact b2_in _) ?_
  refine AW.aload_n (pc' := 8) dX8_holdRow_7 rfl ?_
  refine AW.getR (pc' := 11) dX8_holdRow_8 ly_46 fX8_18 rfl ?_
  refine AW.iload_n (pc' := 12) dX8_holdRow_11 rfl ?_
  refine AW.iload_n (pc' := 13) dX8_holdRow_12 rfl ?_
  first | refine AW.iastN (pc' := 14) dX8_holdRow_13 ly_49 (by first | assumption | omega | (constructor <;> omega) | (simp only [Int.toNat_natCast]; omega) | exact b2_in _) (by decide) (by first | assumption | omega | (constructor <;> omega) | (simp only [Int.toNat_natCast]; omega) | exact b2_in _) ?_ | refine AW.iast (pc' := 14) dX8_holdRow_13 ly_49 (by first | assumption | omega | (constructor <;> omega) | (simp only [Int.toNat_natCast]; omega) | exact b2_in _) (by first | assumption | omega | (constructor <;> omega) | (simp only [Int.toNat_natCast]; omega) | exact b2_in _) (by decide) (by first | assumption | omega | (constructor <;> omega) | (simp only [Int.toNat_natCast]; omega) | exact b2_in _) ?_
  obtain ⟨h3, gh3⟩ : ∃ z, z = hset (hset h 47 5 b) 49 5 c := ⟨_, rfl⟩
  try simp only [Int.reduceToNat]
  rw [← gh3]
  refine AW.iconst (pc' := 15) dX8_holdRow_14 ?_
  refine AW.istore4 (pc' := 17) dX8_holdRow_15 (by decide) rfl ?_
  refine AW.weak (lp_X8_holdRow5 (h := h3) q0 c.toNat 0 h3 (by omega) EX.rf (fun j => by unfold zrR; rw [if_neg (by omega)]) (fun h2 e2 t2 => ?_)) (by (repeat' first | exact LSub.e | refine LSub.n ?_ | refine LSub.c ?_ ?_) <;> first | rfl | exact congrArg Sum.inl (by first | rfl | omega | omega))
  refine AW.vret dX8_holdRow_46 ?_ ?_
  · rfl
  · have e3 : EX [47, 49] h h3 := by rw [gh3]; exact (EX.rf.st rfl).st rfl
    refine ⟨(e3.wd (fun k hk => by simp at hk ⊢; omega)).tr (e2.wd (fun k hk => by simp at hk ⊢; omega)), fun j => ?_, fun j => ?_, fun j => ?_⟩
    · rw [e2 47 rfl, gh3]; simp [hset_app, upR]
    · rw [e2 49 rfl, gh3]; simp [hset_app, upR]
    · rw [show 51 + 5 = 56 from rfl, t2 j, e3 56 rfl]
set_option maxRecDepth 100000 in
set_option maxHeartbeats 4000000 in
theorem c_X11_row {K : KT} {dep : Nat} {h : Hp} {a b c : Int} (hd : 1 ≤ dep) (q0 : inI a) (q1 : inI b) (q2 : inI c) : AMp K yX11_row cX11_row 4 (some .int) dep [vR 0, vI a, vI b, vI c] h (some (vI (if ¬ (0 ≤ a ∧ a < 6) ∨ ¬ (0 ≤ b ∧ b ≤ 4) ∨ 60 < c then -1 else if c < 0 then -14 else 1))) (fun x => ((¬ (0 ≤ a ∧ a < 6) ∨ ¬ (0 ≤ b ∧ b ≤ 4) ∨ 60 < c ∨ c < 0) ∧ x = h) ∨ (((0 ≤ a ∧ a < 6) ∧ (0 ≤ b ∧ b ≤ 4) ∧ 0 ≤ c ∧ c ≤ 60) ∧ RP a.toNat h b c x)) := by
  refine AM.of (own := RX11) (ls := [some (vR 0), some (vI a), some (vI b), some (vI c)]) rfl (by decide +kernel) (by exact Nat.le_of_ble_eq_true rfl) rfl (fun hO => ?_)
  refine AW.aload_n (pc' := 1) dX11_row_0 rfl ?_
  refine AW.getR (pc' := 4) dX11_row_1 ly_0 fX11_81 rfl ?_
  refine AW.iload_n (pc' := 5) dX11_row_4 rfl ?_
  refine AW.invV1 (pc' := 8) dX11_row_5 mlX11_111 mX8_has ly_46 rfl (c_X8_has (dep := dep - 1) (by first | assumption | omega | (constructor <;> omega) | (simp only [Int.toNat_natCast]; omega) | exact b2_in _)) ?_
  refine AW.ifb_eq (tgt := 26) (pc' := 11) dX11_row_8 (fun c8 => ?_) (fun c8 => ?_)
  · refine AW.iconst (pc' := 27) dX11_row_26 ?_
    refine AW.iret dX11_row_27 ?_ ?_
    · refine congrArg (fun z : Int => (some (vI z) : Option AV)) ?_
      (repeat' split) <;> first | rfl | omega
    · exact Or.inl ⟨by omega, rfl⟩
  · refine AW.iload_n (pc' := 12) dX11_row_11 rfl ?_
    refine AW.iconst (pc' := 13) dX11_row_12 ?_
    refine AW.iconst (pc' := 14) dX11_row_13 ?_
    refine AW.invS3 (pc' := 17) dX11_row_14 mlX11_89 mX11_within (c_X11_within (dep := dep - 1) (by first | assumption | omega | (constructor <;> omega) | (simp only [Int.toNat_natCast]; omega) | exact b2_in _) (by first | assumption | omega | (constructor <;> omega) | (simp only [Int.toNat_natCast]; omega) | exact b2_in _) (by first | assumption | omega | (constructor <;> omega) | (simp only [Int.toNat_natCast]; omega) | exact b2_in _)) ?_
    refine AW.ifb_eq (tgt := 26) (pc' := 20) dX11_row_17 (fun c17 => ?_) (fun c17 => ?_)
    · refine AW.iconst (pc' := 27) dX11_row_26 ?_
      refine AW.iret dX11_row_27 ?_ ?_
      · refine congrArg (fun z : Int => (some (vI z) : Option AV)) ?_
        (repeat' split) <;> first | rfl | omega
      · exact Or.inl ⟨by omega, rfl⟩
    · refine AW.iload_n (pc' := 21) dX11_row_20 rfl ?_
      refine AW.bipush (pc' := 23) dX11_row_21 (by decide) ?_
      refine AW.icmp_le (tgt := 28) (pc' := 26) dX11_row_23 (by first | assumption | omega | (constructor <;> omega) | (simp only [Int.toNat_natCast]; omega) | exact b2_in _) (by first | assumption | omega | (constructor <;> omega) | (simp only [Int.toNat_natCast]; omega) | exact b2_in _) (fun c23 => ?_) (fun c23 => ?_)
      · refine AW.iload_n (pc' := 29) dX11_row_28 rfl ?_
        refine AW.if_ge (tgt := 35) (pc' := 32) dX11_row_29 (by first | assumption | omega | (constructor <;> omega) | (simp only [Int.toNat_natCast]; omega) | exact b2_in _) (fun c29 => ?_) (fun c29 => ?_)
        · by_cases v35_0 : a = 0
          · subst v35_0
            refine AW.aload_n (pc' := 36) dX11_row_35 rfl ?_
            refine AW.getR (pc' := 39) dX11_row_36 ly_0 fX11_81 rfl ?_
            refine AW.iload_n (pc' := 40) dX11_row_39 rfl ?_
            refine AW.iload_n (pc' := 41) dX11_row_40 rfl ?_
            refine AW.iload_n (pc' := 42) dX11_row_41 rfl ?_
            refine AW.invQ3v (pc' := 45) dX11_row_42 mlX11_312 mX8_holdRow ly_46 rfl (c_X8_holdRow0 (dep := dep - 1) (by omega) (by first | assumption | omega | (constructor <;> omega) | (simp only [Int.toNat_natCast]; omega) | exact b2_in _)) (fun h42 s42 => ?_)
            refine AW.iconst (pc' := 46) dX11_row_45 ?_
            refine AW.iret dX11_row_46 ?_ ?_
            · refine congrArg (fun z : Int => (some (vI z) : Option AV)) ?_
              (repeat' split) <;> first | rfl | omega
            · exact Or.inr ⟨by omega, s42⟩
          by_cases v35_1 : a = 1
          · subst v35_1
            refine AW.aload_n (pc' := 36) dX11_row_35 rfl ?_
            refine AW.getR (pc' := 39) dX11_row_36 ly_0 fX11_81 rfl ?_
            refine AW.iload_n (pc' := 40) dX11_row_39 rfl ?_
            refine AW.iload_n (pc' := 41) dX11_row_40 rfl ?_
            refine AW.iload_n (pc' := 42) dX11_row_41 rfl ?_
            refine AW.invQ3v (pc' := 45) dX11_row_42 mlX11_312 mX8_holdRow ly_46 rfl (c_X8_holdRow1 (dep := dep - 1) (by omega) (by first | assumption | omega | (constructor <;> omega) | (simp only [Int.toNat_natCast]; omega) | exact b2_in _)) (fun h42 s42 => ?_)
            refine AW.iconst (pc' := 46) dX11_row_45 ?_
            refine AW.iret dX11_row_46 ?_ ?_
            · refine congrArg (fun z : Int => (some (vI z) : Option AV)) ?_
              (repeat' split) <;> first | rfl | omega
            · exact Or.inr ⟨by omega, s42⟩
          by_cases v35_2 : a = 2
          · subst v35_2
            refine AW.aload_n (pc' := 36) dX11_row_35 rfl ?_
            refine AW.getR (pc' := 39) dX11_row_36 ly_0 fX11_81 rfl ?_
            refine AW.iload_n (pc' := 40) dX11_row_39 rfl ?_
            refine AW.iload_n (pc' := 41) dX11_row_40 rfl ?_
            refine AW.iload_n (pc' := 42) dX11_row_41 rfl ?_
            refine AW.invQ3v (pc' := 45) dX11_row_42 mlX11_312 mX8_holdRow ly_46 rfl (c_X8_holdRow2 (dep := dep - 1) (by omega) (by first | assumption | omega | (constructor <;> omega) | (simp only [Int.toNat_natCast]; omega) | exact b2_in _)) (fun h42 s42 => ?_)
            refine AW.iconst (pc' := 46) dX11_row_45 ?_
            refine AW.iret dX11_row_46 ?_ ?_
            · refine congrArg (fun z : Int => (some (vI z) : Option AV)) ?_
              (repeat' split) <;> first | rfl | omega
            · exact Or.inr ⟨by omega, s42⟩
          by_cases v35_3 : a = 3
          · subst v35_3
            refine AW.aload_n (pc' := 36) dX11_row_35 rfl ?_
            refine AW.getR (pc' := 39) dX11_row_36 ly_0 fX11_81 rfl ?_
            refine AW.iload_n (pc' := 40) dX11_row_39 rfl ?_
            refine AW.iload_n (pc' := 41) dX11_row_40 rfl ?_
            refine AW.iload_n (pc' := 42) dX11_row_41 rfl ?_
            refine AW.invQ3v (pc' := 45) dX11_row_42 mlX11_312 mX8_holdRow ly_46 rfl (c_X8_holdRow3 (dep := dep - 1) (by omega) (by first | assumption | omega | (constructor <;> omega) | (simp only [Int.toNat_natCast]; omega) | exact b2_in _)) (fun h42 s42 => ?_)
            refine AW.iconst (pc' := 46) dX11_row_45 ?_
            refine AW.iret dX11_row_46 ?_ ?_
            · refine congrArg (fun z : Int => (some (vI z) : Option AV)) ?_
              (repeat' split) <;> first | rfl | omega
            · exact Or.inr ⟨by omega, s42⟩
          by_cases v35_4 : a = 4
          · subst v35_4
            refine AW.aload_n (pc' := 36) dX11_row_35 rfl ?_
            refine AW.getR (pc' := 39) dX11_row_36 ly_0 fX11_81 rfl ?_
            refine AW.iload_n (pc' := 40) dX11_row_39 rfl ?_
            refine AW.iload_n (pc' := 41) dX11_row_40 rfl ?_
            refine AW.iload_n (pc' := 42) dX11_row_41 rfl ?_
            refine AW.invQ3v (pc' := 45) dX11_row_42 mlX11_312 mX8_holdRow ly_46 rfl (c_X8_holdRow4 (dep := dep - 1) (by omega) (by first | assumption | omega | (constructor <;> omega) | (simp only [Int.toNat_natCast]; omega) | exact b2_in _)) (fun h42 s42 => ?_)
            refine AW.iconst (pc' := 46) dX11_row_45 ?_
            refine AW.iret dX11_row_46 ?_ ?_
            · refine congrArg (fun z : Int => (some (vI z) : Option AV)) ?_
              (repeat' split) <;> first | rfl | omega
            · exact Or.inr ⟨by omega, s42⟩
          by_cases v35_5 : a = 5
          · subst v35_5
            refine AW.aload_n (pc' := 36) dX11_row_35 rfl ?_
            refine AW.getR (pc' := 39) dX11_row_36 ly_0 fX11_81 rfl ?_
            refine AW.iload_n (pc' := 40) dX11_row_39 rfl ?_
            refine AW.iload_n (pc' := 41) dX11_row_40 rfl ?_
            refine AW.iload_n (pc' := 42) dX11_row_41 rfl ?_
            refine AW.invQ3v (pc' := 45) dX11_row_42 mlX11_312 mX8_holdRow ly_46 rfl (c_X8_holdRow5 (dep := dep - 1) (by omega) (by first | assumption | omega | (constructor <;> omega) | (simp only [Int.toNat_natCast]; omega) | exact b2_in _)) (fun h42 s42 => ?_)
            refine AW.iconst (pc' := 46) dX11_row_45 ?_
            refine AW.iret dX11_row_46 ?_ ?_
            · refine congrArg (fun z : Int => (some (vI z) : Option AV)) ?_
              (repeat' split) <;> first | rfl | omega
            · exact Or.inr ⟨by omega, s42⟩
          exfalso
          omega
        · refine AW.bipush (pc' := 34) dX11_row_32 (by decide) ?_
          refine AW.iret dX11_row_34 ?_ ?_
          · refine congrArg (fun z : Int => (some (vI z) : Option AV)) ?_
            (repeat' split) <;> first | rfl | omega
          · exact Or.inl ⟨by omega, rfl⟩
      · refine AW.iconst (pc' := 27) dX11_row_26 ?_
        refine AW.iret dX11_row_27 ?_ ?_
        · refine congrArg (fun z : Int => (some (vI z) : Option AV)) ?_
          (repeat' split) <;> first | rfl | omega
        · exact Or.inl ⟨by omega, rfl⟩
set_option maxRecDepth 100000 in
set_option maxHeartbeats 4000000 in
theorem lp_X12_row {K : KT} {X : XT} {dep : Nat} {h : Hp} {a b c : Int} (q0 : 0 ≤ c ∧ c ≤ 60) (qa : 0 ≤ a ∧ a < 6)  : ∀ (m k : Nat) (h1 : Hp), (k : Int) + m = c → EX [89] h h1 → (∀ j : Nat, h1 89 j = zrR (h 89) (60 * a.toNat) k j) → (∀ h2 : Hp, EX [89] h h2 → (∀ j : Nat, h2 89 j = zrR (h 89) (60 * a.toNat) c j) → AW K X RX12 cX12_row 5 (some .int) dep 73 [some (vR 57), some (vI (a)), some (vI (b)), some (vI (c)), none] [] h2) → AW K X RX12 cX12_row 5 (some .int) dep 48 [some (vR 57), some (vI (a)), some (vI (b)), some (vI (c)), some (vI ((k : Int)))] [] h1 := by
  intro m
  induction m with
  | zero =>
    intro k h1 hk e1 t1 kk
    refine AW.iload (pc' := 50) dX12_row_48 rfl ?_
    refine AW.iload_n (pc' := 51) dX12_row_50 rfl ?_
    refine AW.icmp_ge (tgt := 73) (pc' := 54) dX12_row_51 (by first | assumption | omega | (constructor <;> omega) | (simp only [Int.toNat_natCast]; omega) | exact b2_in _) (by first | assumption | omega | (constructor <;> omega) | (simp only [Int.toNat_natCast]; omega) | exact b2_in _) (fun c51 => ?_) (fun c51 => ?_)
    · exact AW.weak (kk h1 e1 (by rw [← hk]; simpa using t1)) (by (repeat' first | exact LSub.e | refine LSub.n ?_ | refine LSub.c ?_ ?_) <;> first | rfl | exact congrArg Sum.inl (by first | rfl | omega | omega))
    · omega
  | succ m ih =>
    intro k h1 hk e1 t1 kk
    refine AW.iload (pc' := 50) dX12_row_48 rfl ?_
    refine AW.iload_n (pc' := 51) dX12_row_50 rfl ?_
    refine AW.icmp_ge (tgt := 73) (pc' := 54) dX12_row_51 (by first | assumption | omega | (constructor <;> omega) | (simp only [Int.toNat_natCast]; omega) | exact b2_in _) (by first | assumption | omega | (constructor <;> omega) | (simp only [Int.toNat_natCast]; omega) | exact b2_in _) (fun c51 => ?_) (fun c51 => ?_)
    · omega
    · refine AW.aload_n (pc' := 55) dX12_row_54 rfl ?_
      refine AW.getR (pc' := 58) dX12_row_55 ly_57 fX12_107 rfl ?_
      refine AW.bipush (pc' := 60) dX12_row_58 (by decide) ?_
      refine AW.iload_n (pc' := 61) dX12_row_60 rfl ?_
      refine AW.imul (pc' := 62) dX12_row_61 ?_
      refine AW.iload (pc' := 64) dX12_row_62 rfl ?_
      refine AW.iadd (pc' := 65) dX12_row_64 ?_
      refine AW.lconst_0 (pc' := 66) dX12_row_65 ?_
      first | refine AW.lastN (pc' := 67) dX12_row_66 ly_89 (by first | assumption | omega | (constructor <;> omega) | (simp only [Int.toNat_natCast]; omega) | exact b2_in _) (by decide) (by first | assumption | omega | (constructor <;> omega) | (simp only [Int.toNat_natCast]; omega) | exact b2_in _) ?_ | refine AW.last (pc' := 67) dX12_row_66 ly_89 (by first | assumption | omega | (constructor <;> omega) | (simp only [Int.toNat_natCast]; omega) | exact b2_in _) (by first | assumption | omega | (constructor <;> omega) | (simp only [Int.toNat_natCast]; omega) | exact b2_in _) (by decide) (by first | assumption | omega | (constructor <;> omega) | (simp only [Int.toNat_natCast]; omega) | exact b2_in _) ?_
      refine AW.iinc4 (pc' := 70) dX12_row_67 (by decide) rfl ?_
      refine AW.goto (tgt := 48) dX12_row_70 ?_
      exact AW.weak (ih (k + 1) _ (by omega) (e1.st rfl) (fun j => by
          simp only [hset_app, true_and, t1 j, zrR]
          by_cases z : j = (60 * a + (k : Int)).toNat
          · rw [if_pos z, if_pos (by omega)]
          · rw [if_neg z]
            by_cases y : 60 * a.toNat ≤ j ∧ (j : Int) < (60 * a.toNat : Nat) + (k : Int)
            · rw [if_pos y, if_pos (by omega)]
            · rw [if_neg y, if_neg (by omega)]) kk) (by (repeat' first | exact LSub.e | refine LSub.n ?_ | refine LSub.c ?_ ?_) <;> first | rfl | exact congrArg Sum.inl (by first | rfl | omega | omega))
set_option maxRecDepth 100000 in
set_option maxHeartbeats 4000000 in
theorem c_X12_row {K : KT} {dep : Nat} {h : Hp} {a b c : Int} (hd : 1 ≤ dep) (q0 : inI a) (q1 : inI b) (q2 : inI c) : AMp K yX12_row cX12_row 5 (some .int) dep [vR 57, vI a, vI b, vI c] h (some (vI (if ¬ (0 ≤ a ∧ a < 6) ∨ ¬ (0 ≤ b ∧ b ≤ 4) ∨ 60 < c then -1 else if c < 0 then -14 else 1))) (fun x => ((¬ (0 ≤ a ∧ a < 6) ∨ ¬ (0 ≤ b ∧ b ≤ 4) ∨ 60 < c ∨ c < 0) ∧ x = h) ∨ (((0 ≤ a ∧ a < 6) ∧ (0 ≤ b ∧ b ≤ 4) ∧ 0 ≤ c ∧ c ≤ 60) ∧ RM h a b c x)) := by
  refine AM.of (own := RX12) (ls := [some (vR 57), some (vI a), some (vI b), some (vI c), none]) rfl (by decide +kernel) (by exact Nat.le_of_ble_eq_true rfl) rfl (fun hO => ?_)
  refine AW.iload_n (pc' := 1) dX12_row_0 rfl ?_
  refine AW.invS1 (pc' := 4) dX12_row_1 mlX12_360 mX12_isShelf (c_X12_isShelf (dep := dep - 1) (by first | assumption | omega | (constructor <;> omega) | (simp only [Int.toNat_natCast]; omega) | exact b2_in _)) ?_
  refine AW.ifb_eq (tgt := 22) (pc' := 7) dX12_row_4 (fun c4 => ?_) (fun c4 => ?_)
  · refine AW.iconst (pc' := 23) dX12_row_22 ?_
    refine AW.iret dX12_row_23 ?_ ?_
    · refine congrArg (fun z : Int => (some (vI z) : Option AV)) ?_
      (repeat' split) <;> first | rfl | omega
    · exact Or.inl ⟨by omega, rfl⟩
  · refine AW.iload_n (pc' := 8) dX12_row_7 rfl ?_
    refine AW.iconst (pc' := 9) dX12_row_8 ?_
    refine AW.iconst (pc' := 10) dX12_row_9 ?_
    refine AW.invS3 (pc' := 13) dX12_row_10 mlX12_117 mX12_isIn (c_X12_isIn (dep := dep - 1) (by first | assumption | omega | (constructor <;> omega) | (simp only [Int.toNat_natCast]; omega) | exact b2_in _) (by first | assumption | omega | (constructor <;> omega) | (simp only [Int.toNat_natCast]; omega) | exact b2_in _) (by first | assumption | omega | (constructor <;> omega) | (simp only [Int.toNat_natCast]; omega) | exact b2_in _)) ?_
    refine AW.ifb_eq (tgt := 22) (pc' := 16) dX12_row_13 (fun c13 => ?_) (fun c13 => ?_)
    · refine AW.iconst (pc' := 23) dX12_row_22 ?_
      refine AW.iret dX12_row_23 ?_ ?_
      · refine congrArg (fun z : Int => (some (vI z) : Option AV)) ?_
        (repeat' split) <;> first | rfl | omega
      · exact Or.inl ⟨by omega, rfl⟩
    · refine AW.iload_n (pc' := 17) dX12_row_16 rfl ?_
      refine AW.bipush (pc' := 19) dX12_row_17 (by decide) ?_
      refine AW.icmp_le (tgt := 24) (pc' := 22) dX12_row_19 (by first | assumption | omega | (constructor <;> omega) | (simp only [Int.toNat_natCast]; omega) | exact b2_in _) (by first | assumption | omega | (constructor <;> omega) | (simp only [Int.toNat_natCast]; omega) | exact b2_in _) (fun c19 => ?_) (fun c19 => ?_)
      · refine AW.iload_n (pc' := 25) dX12_row_24 rfl ?_
        refine AW.if_ge (tgt := 31) (pc' := 28) dX12_row_25 (by first | assumption | omega | (constructor <;> omega) | (simp only [Int.toNat_natCast]; omega) | exact b2_in _) (fun c25 => ?_) (fun c25 => ?_)
        · refine AW.aload_n (pc' := 32) dX12_row_31 rfl ?_
          refine AW.getR (pc' := 35) dX12_row_32 ly_57 fX12_98 rfl ?_
          refine AW.iload_n (pc' := 36) dX12_row_35 rfl ?_
          refine AW.iload_n (pc' := 37) dX12_row_36 rfl ?_
          first | refine AW.iastN (pc' := 38) dX12_row_37 ly_86 (by first | assumption | omega | (constructor <;> omega) | (simp only [Int.toNat_natCast]; omega) | exact b2_in _) (by decide) (by first | assumption | omega | (constructor <;> omega) | (simp only [Int.toNat_natCast]; omega) | exact b2_in _) ?_ | refine AW.iast (pc' := 38) dX12_row_37 ly_86 (by first | assumption | omega | (constructor <;> omega) | (simp only [Int.toNat_natCast]; omega) | exact b2_in _) (by first | assumption | omega | (constructor <;> omega) | (simp only [Int.toNat_natCast]; omega) | exact b2_in _) (by decide) (by first | assumption | omega | (constructor <;> omega) | (simp only [Int.toNat_natCast]; omega) | exact b2_in _) ?_
          refine AW.aload_n (pc' := 39) dX12_row_38 rfl ?_
          refine AW.getR (pc' := 42) dX12_row_39 ly_57 fX12_104 rfl ?_
          refine AW.iload_n (pc' := 43) dX12_row_42 rfl ?_
          refine AW.iload_n (pc' := 44) dX12_row_43 rfl ?_
          first | refine AW.iastN (pc' := 45) dX12_row_44 ly_88 (by first | assumption | omega | (constructor <;> omega) | (simp only [Int.toNat_natCast]; omega) | exact b2_in _) (by decide) (by first | assumption | omega | (constructor <;> omega) | (simp only [Int.toNat_natCast]; omega) | exact b2_in _) ?_ | refine AW.iast (pc' := 45) dX12_row_44 ly_88 (by first | assumption | omega | (constructor <;> omega) | (simp only [Int.toNat_natCast]; omega) | exact b2_in _) (by first | assumption | omega | (constructor <;> omega) | (simp only [Int.toNat_natCast]; omega) | exact b2_in _) (by decide) (by first | assumption | omega | (constructor <;> omega) | (simp only [Int.toNat_natCast]; omega) | exact b2_in _) ?_
          obtain ⟨h3, gh3⟩ : ∃ z, z = hset (hset h 86 a.toNat b) 88 a.toNat c := ⟨_, rfl⟩
          rw [← gh3]
          refine AW.iconst (pc' := 46) dX12_row_45 ?_
          refine AW.istore4 (pc' := 48) dX12_row_46 (by decide) rfl ?_
          refine AW.weak (lp_X12_row (h := h3) (a := a) (b := b) (c := c) (by omega) (by omega) c.toNat 0 h3 (by omega) EX.rf (fun j => by unfold zrR; rw [if_neg (by omega)]) (fun h2 e2 t2 => ?_)) (by (repeat' first | exact LSub.e | refine LSub.n ?_ | refine LSub.c ?_ ?_) <;> first | rfl | exact congrArg Sum.inl (by first | rfl | omega | omega))
          refine AW.iconst (pc' := 74) dX12_row_73 ?_
          refine AW.iret dX12_row_74 ?_ ?_
          · refine congrArg (fun z : Int => (some (vI z) : Option AV)) ?_
            (repeat' split) <;> first | rfl | omega
          · have e3 : EX [86, 88] h h3 := by rw [gh3]; exact (EX.rf.st rfl).st rfl
            refine Or.inr ⟨by omega, (e3.wd (fun k hk => by simp at hk ⊢; omega)).tr (e2.wd (fun k hk => by simp at hk ⊢; omega)), fun j => ?_, fun j => ?_, fun j => ?_⟩
            · rw [e2 86 rfl, gh3]; simp [hset_app, upR]
            · rw [e2 88 rfl, gh3]; simp [hset_app, upR]
            · rw [t2 j, e3 89 rfl]
        · refine AW.bipush (pc' := 30) dX12_row_28 (by decide) ?_
          refine AW.iret dX12_row_30 ?_ ?_
          · refine congrArg (fun z : Int => (some (vI z) : Option AV)) ?_
            (repeat' split) <;> first | rfl | omega
          · exact Or.inl ⟨by omega, rfl⟩
      · refine AW.iconst (pc' := 23) dX12_row_22 ?_
        refine AW.iret dX12_row_23 ?_ ?_
        · refine congrArg (fun z : Int => (some (vI z) : Option AV)) ?_
          (repeat' split) <;> first | rfl | omega
        · exact Or.inl ⟨by omega, rfl⟩
