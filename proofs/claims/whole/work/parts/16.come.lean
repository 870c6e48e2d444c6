/-! runs come: the two orders, ran -/
def insP (beh : Nat → Prop) (dec : ∀ k, Decidable (beh k)) : Nat → Nat
  | 0 => 0
  | k + 1 => match dec k with
    | .isTrue _ => insP beh dec k
    | .isFalse _ => k + 1
/-- does the order's k-th run stand behind the run b -/
abbrev behP (ow ye ord : Nat → Int) (b : Int) (k : Nat) : Prop := ow b.toNat < ow (ord k).toNat ∨ ow (ord k).toNat = ow b.toNat ∧ ye b.toNat < ye (ord k).toNat
abbrev insQ (ow ye ord : Nat → Int) (b : Int) (k : Nat) : Nat := insP (behP ow ye ord b) (fun k => inferInstance) k
theorem insQ_t {ow ye ord : Nat → Int} {b : Int} {k : Nat} (h : behP ow ye ord b k) : insQ ow ye ord b (k + 1) = insQ ow ye ord b k := by
  show insP _ _ (k + 1) = insP _ _ k
  rw [insP]
  split
  · rfl
  · rename_i z _; exact absurd h z
theorem insQ_f {ow ye ord : Nat → Int} {b : Int} {k : Nat} (h : ¬ behP ow ye ord b k) : insQ ow ye ord b (k + 1) = k + 1 := by
  show insP _ _ (k + 1) = k + 1
  rw [insP]
  split
  · rename_i z _; exact absurd z h
  · rfl
theorem insQ_le (ow ye ord : Nat → Int) (b : Int) : ∀ k : Nat, insQ ow ye ord b k ≤ k
  | 0 => Nat.le_refl _
  | k + 1 => by
    by_cases h : behP ow ye ord b k
    · rw [insQ_t h]; have := insQ_le ow ye ord b k; omega
    · rw [insQ_f h]; exact Nat.le_refl _
set_option maxRecDepth 100000 in
set_option maxHeartbeats 4000000 in
theorem lp_X7_enterR {K : KT} {X : XT} {dep : Nat} {h : Hp} {b : Int} (q0 : 0 ≤ b ∧ b < 120) (hQ : ∀ k : Nat, (k : Int) < b → 0 ≤ h 18 k ∧ h 18 k < 120) (hd : 1 ≤ dep) : ∀ (k : Nat) (h1 : Hp), (k : Int) ≤ b → EX [18] h h1 → (∀ j : Nat, h1 18 j = if k < j ∧ (j : Int) ≤ b then h 18 (j - 1) else h 18 j) → (∀ h2 : Hp, EX [18] h h2 → (∀ j : Nat, h2 18 j = if insQ (h 13) (h 15) (h 18) b k < j ∧ (j : Int) ≤ b then h 18 (j - 1) else h 18 j) → AW K X RX7 cX7_enter 5 none dep 39 [some (vR 12), some (vR 18), some (vR 13), some (vI (b)), some (vI (((insQ (h 13) (h 15) (h 18) b k : Nat) : Int)))] [] h2) → AW K X RX7 cX7_enter 5 none dep 3 [some (vR 12), some (vR 18), some (vR 13), some (vI (b)), some (vI ((k : Int)))] [] h1 := by
  intro k
  induction k with
  | zero =>
    intro h1 hk e1 t1 kk
    refine AW.iload (pc' := 5) dX7_enter_3 rfl ?_
    refine AW.if_le (tgt := 39) (pc' := 8) dX7_enter_5 (by first | assumption | omega | (constructor <;> omega) | (simp only [Int.toNat_natCast]; omega) | exact b2_in _) (fun c5 => ?_) (fun c5 => ?_)
    · exact AW.weak (kk h1 e1 t1) (by (repeat' first | exact LSub.e | refine LSub.n ?_ | refine LSub.c ?_ ?_) <;> first | rfl | exact congrArg Sum.inl (by first | rfl | omega | omega))
    · omega
  | succ k ih =>
    intro h1 hk e1 t1 kk
    have ek : (((k + 1 : Nat) : Int) - 1).toNat = k := by omega
    have w13 := e1 13 rfl
    have w14 := e1 14 rfl
    have w15 := e1 15 rfl
    have o1 := hQ k (by omega)
    have tk : h1 18 k = h 18 k := by rw [t1 k, if_neg (by omega)]
    refine AW.iload (pc' := 5) dX7_enter_3 rfl ?_
    refine AW.if_le (tgt := 39) (pc' := 8) dX7_enter_5 (by first | assumption | omega | (constructor <;> omega) | (simp only [Int.toNat_natCast]; omega) | exact b2_in _) (fun c5 => ?_) (fun c5 => ?_)
    · omega
    · refine AW.aload_n (pc' := 9) dX7_enter_8 rfl ?_
      refine AW.aload_n (pc' := 10) dX7_enter_9 rfl ?_
      refine AW.iload (pc' := 12) dX7_enter_10 rfl ?_
      refine AW.iconst (pc' := 13) dX7_enter_12 ?_
      refine AW.isub (pc' := 14) dX7_enter_13 ?_
      first | refine AW.ialdN (pc' := 15) dX7_enter_14 ly_18 (by first | assumption | omega | (constructor <;> omega) | (simp only [Int.toNat_natCast]; omega) | exact b2_in _) (by decide) (fun r14 => ?_) | refine AW.iald (pc' := 15) dX7_enter_14 ly_18 (by first | assumption | omega | (constructor <;> omega) | (simp only [Int.toNat_natCast]; omega) | exact b2_in _) (by first | assumption | omega | (constructor <;> omega) | (simp only [Int.toNat_natCast]; omega) | exact b2_in _) (by decide) (fun r14 => ?_)
      try simp only [ek, w13, w14, w15, tk] at r14 ⊢
      refine AW.iload_n (pc' := 16) dX7_enter_15 rfl ?_
      refine AW.aload_n (pc' := 17) dX7_enter_16 rfl ?_
      refine AW.invV3 (pc' := 20) dX7_enter_17 mlX7_52 mX7_isBehind ly_12 rfl (c_X7_isBehindR (dep := dep - 1) (by first | assumption | omega | (constructor <;> omega) | (simp only [Int.toNat_natCast]; omega) | exact b2_in _) (by first | assumption | omega | (constructor <;> omega) | (simp only [Int.toNat_natCast]; omega) | exact b2_in _)) ?_
      try simp only [Int.toNat_natCast, ek, w13, w14, w15, tk]
      refine AW.ifb_eq (tgt := 39) (pc' := 23) dX7_enter_20 (fun c20 => ?_) (fun c20 => ?_)
      · exact AW.weak (kk h1 e1 (by rw [insQ_f c20]; exact t1)) (by (repeat' first | exact LSub.e | refine LSub.n ?_ | refine LSub.c ?_ ?_) <;> first | rfl | exact congrArg Sum.inl (by first | rfl | omega | (rw [insQ_f c20])))
      · refine AW.aload_n (pc' := 24) dX7_enter_23 rfl ?_
        refine AW.iload (pc' := 26) dX7_enter_24 rfl ?_
        refine AW.aload_n (pc' := 27) dX7_enter_26 rfl ?_
        refine AW.iload (pc' := 29) dX7_enter_27 rfl ?_
        refine AW.iconst (pc' := 30) dX7_enter_29 ?_
        refine AW.isub (pc' := 31) dX7_enter_30 ?_
        first | refine AW.ialdN (pc' := 32) dX7_enter_31 ly_18 (by first | assumption | omega | (constructor <;> omega) | (simp only [Int.toNat_natCast]; omega) | exact b2_in _) (by decide) (fun r31 => ?_) | refine AW.iald (pc' := 32) dX7_enter_31 ly_18 (by first | assumption | omega | (constructor <;> omega) | (simp only [Int.toNat_natCast]; omega) | exact b2_in _) (by first | assumption | omega | (constructor <;> omega) | (simp only [Int.toNat_natCast]; omega) | exact b2_in _) (by decide) (fun r31 => ?_)
        try simp only [ek, w13, w14, w15, tk] at r31 ⊢
        first | refine AW.iastN (pc' := 33) dX7_enter_32 ly_18 (by first | assumption | omega | (constructor <;> omega) | (simp only [Int.toNat_natCast]; omega) | exact b2_in _) (by decide) (by first | assumption | omega | (constructor <;> omega) | (simp only [Int.toNat_natCast]; omega) | exact b2_in _) ?_ | refine AW.iast (pc' := 33) dX7_enter_32 ly_18 (by first | assumption | omega | (constructor <;> omega) | (simp only [Int.toNat_natCast]; omega) | exact b2_in _) (by first | assumption | omega | (constructor <;> omega) | (simp only [Int.toNat_natCast]; omega) | exact b2_in _) (by decide) (by first | assumption | omega | (constructor <;> omega) | (simp only [Int.toNat_natCast]; omega) | exact b2_in _) ?_
        refine AW.iinc4 (pc' := 36) dX7_enter_33 (by decide) rfl ?_
        refine AW.goto (tgt := 3) dX7_enter_36 ?_
        exact AW.weak (ih _ (by omega) (e1.st rfl) (fun j => by
            by_cases z : j = k + 1
            · subst z
              simp only [hset_app, true_and, and_true, reduceIte]
              rw [if_pos ⟨by omega, by omega⟩]
              rfl
            · simp only [hset_app, true_and, z, reduceIte]
              rw [t1 j]
              by_cases y : k + 1 < j ∧ (j : Int) ≤ b
              · rw [if_pos y, if_pos ⟨by omega, y.2⟩]
              · rw [if_neg y, if_neg (by omega)]) (by rw [insQ_t c20] at kk; exact kk)) (by (repeat' first | exact LSub.e | refine LSub.n ?_ | refine LSub.c ?_ ?_) <;> first | rfl | exact congrArg Sum.inl (by first | rfl | omega | (push_cast; omega)))
set_option maxRecDepth 100000 in
set_option maxHeartbeats 4000000 in
theorem c_X7_enterR {K : KT} {dep : Nat} {h : Hp} {b : Int} (hd : 1 ≤ dep) (q0 : 0 ≤ b ∧ b < 120) (hQ : ∀ k : Nat, (k : Int) < b → 0 ≤ h 18 k ∧ h 18 k < 120) : AMp K yX7_enter cX7_enter 5 none dep [vR 12, vR 18, vR 13, vI b] h none (fun x => EX [18] h x ∧ ∀ j : Nat, x 18 j = if j = insQ (h 13) (h 15) (h 18) b b.toNat then b else if insQ (h 13) (h 15) (h 18) b b.toNat < j ∧ (j : Int) ≤ b then h 18 (j - 1) else h 18 j) := by
  refine AM.of (own := RX7) (ls := [some (vR 12), some (vR 18), some (vR 13), some (vI b), none]) rfl (by decide +kernel) (by exact Nat.le_of_ble_eq_true rfl) rfl (fun hO => ?_)
  refine AW.iload_n (pc' := 1) dX7_enter_0 rfl ?_
  refine AW.istore4 (pc' := 3) dX7_enter_1 (by decide) rfl ?_
  refine AW.weak (lp_X7_enterR q0 hQ hd b.toNat h (by omega) EX.rf (fun j => by rw [if_neg (by omega)]) (fun h2 e2 t2 => ?_)) (by (repeat' first | exact LSub.e | refine LSub.n ?_ | refine LSub.c ?_ ?_) <;> first | rfl | exact congrArg Sum.inl (by first | rfl | omega | omega))
  have ip := insQ_le (h 13) (h 15) (h 18) b b.toNat
  refine AW.aload_n (pc' := 40) dX7_enter_39 rfl ?_
  refine AW.iload (pc' := 42) dX7_enter_40 rfl ?_
  refine AW.iload_n (pc' := 43) dX7_enter_42 rfl ?_
  first | refine AW.iastN (pc' := 44) dX7_enter_43 ly_18 (by first | assumption | omega | (constructor <;> omega) | (simp only [Int.toNat_natCast]; omega) | exact b2_in _) (by decide) (by first | assumption | omega | (constructor <;> omega) | (simp only [Int.toNat_natCast]; omega) | exact b2_in _) ?_ | refine AW.iast (pc' := 44) dX7_enter_43 ly_18 (by first | assumption | omega | (constructor <;> omega) | (simp only [Int.toNat_natCast]; omega) | exact b2_in _) (by first | assumption | omega | (constructor <;> omega) | (simp only [Int.toNat_natCast]; omega) | exact b2_in _) (by decide) (by first | assumption | omega | (constructor <;> omega) | (simp only [Int.toNat_natCast]; omega) | exact b2_in _) ?_
  refine AW.vret dX7_enter_44 ?_ ?_
  · rfl
  · refine ⟨e2.st rfl, fun j => ?_⟩
    simp only [hset_app, true_and]
    by_cases z : j = insQ (h 13) (h 15) (h 18) b b.toNat
    · rw [if_pos z, if_pos z]
    · rw [if_neg z, if_neg z, t2 j]
set_option maxRecDepth 100000 in
set_option maxHeartbeats 4000000 in
theorem lp_X7_enterC {K : KT} {X : XT} {dep : Nat} {h : Hp} {b : Int} (q0 : 0 ≤ b ∧ b < 120) (hQ : ∀ k : Nat, (k : Int) < b → 0 ≤ h 19 k ∧ h 19 k < 120) (hd : 1 ≤ dep) : ∀ (k : Nat) (h1 : Hp), (k : Int) ≤ b → EX [19] h h1 → (∀ j : Nat, h1 19 j = if k < j ∧ (j : Int) ≤ b then h 19 (j - 1) else h 19 j) → (∀ h2 : Hp, EX [19] h h2 → (∀ j : Nat, h2 19 j = if insQ (h 14) (h 15) (h 19) b k < j ∧ (j : Int) ≤ b then h 19 (j - 1) else h 19 j) → AW K X RX7 cX7_enter 5 none dep 39 [some (vR 12), some (vR 19), some (vR 14), some (vI (b)), some (vI (((insQ (h 14) (h 15) (h 19) b k : Nat) : Int)))] [] h2) → AW K X RX7 cX7_enter 5 none dep 3 [some (vR 12), some (vR 19), some (vR 14), some (vI (b)), some (vI ((k : Int)))] [] h1 := by
  intro k
  induction k with
  | zero =>
    intro h1 hk e1 t1 kk
    refine AW.iload (pc' := 5) dX7_enter_3 rfl ?_
    refine AW.if_le (tgt := 39) (pc' := 8) dX7_enter_5 (by first | assumption | omega | (constructor <;> omega) | (simp only [Int.toNat_natCast]; omega) | exact b2_in _) (fun c5 => ?_) (fun c5 => ?_)
    · exact AW.weak (kk h1 e1 t1) (by (repeat' first | exact LSub.e | refine LSub.n ?_ | refine LSub.c ?_ ?_) <;> first | rfl | exact congrArg Sum.inl (by first | rfl | omega | omega))
    · omega
  | succ k ih =>
    intro h1 hk e1 t1 kk
    have ek : (((k + 1 : Nat) : Int) - 1).toNat = k := by omega
    have w13 := e1 13 rfl
    have w14 := e1 14 rfl
    have w15 := e1 15 rfl
    have o1 := hQ k (by omega)
    have tk : h1 19 k = h 19 k := by rw [t1 k, if_neg (by omega)]
    refine AW.iload (pc' := 5) dX7_enter_3 rfl ?_
    refine AW.if_le (tgt := 39) (pc' := 8) dX7_enter_5 (by first | assumption | omega | (constructor <;> omega) | (simp only [Int.toNat_natCast]; omega) | exact b2_in _) (fun c5 => ?_) (fun c5 => ?_)
    · omega
    · refine AW.aload_n (pc' := 9) dX7_enter_8 rfl ?_
      refine AW.aload_n (pc' := 10) dX7_enter_9 rfl ?_
      refine AW.iload (pc' := 12) dX7_enter_10 rfl ?_
      refine AW.iconst (pc' := 13) dX7_enter_12 ?_
      refine AW.isub (pc' := 14) dX7_enter_13 ?_
      first | refine AW.ialdN (pc' := 15) dX7_enter_14 ly_19 (by first | assumption | omega | (constructor <;> omega) | (simp only [Int.toNat_natCast]; omega) | exact b2_in _) (by decide) (fun r14 => ?_) | refine AW.iald (pc' := 15) dX7_enter_14 ly_19 (by first | assumption | omega | (constructor <;> omega) | (simp only [Int.toNat_natCast]; omega) | exact b2_in _) (by first | assumption | omega | (constructor <;> omega) | (simp only [Int.toNat_natCast]; omega) | exact b2_in _) (by decide) (fun r14 => ?_)
      try simp only [ek, w13, w14, w15, tk] at r14 ⊢
      refine AW.iload_n (pc' := 16) dX7_enter_15 rfl ?_
      refine AW.aload_n (pc' := 17) dX7_enter_16 rfl ?_
      refine AW.invV3 (pc' := 20) dX7_enter_17 mlX7_52 mX7_isBehind ly_12 rfl (c_X7_isBehindC (dep := dep - 1) (by first | assumption | omega | (constructor <;> omega) | (simp only [Int.toNat_natCast]; omega) | exact b2_in _) (by first | assumption | omega | (constructor <;> omega) | (simp only [Int.toNat_natCast]; omega) | exact b2_in _)) ?_
      try simp only [Int.toNat_natCast, ek, w13, w14, w15, tk]
      refine AW.ifb_eq (tgt := 39) (pc' := 23) dX7_enter_20 (fun c20 => ?_) (fun c20 => ?_)
      · exact AW.weak (kk h1 e1 (by rw [insQ_f c20]; exact t1)) (by (repeat' first | exact LSub.e | refine LSub.n ?_ | refine LSub.c ?_ ?_) <;> first | rfl | exact congrArg Sum.inl (by first | rfl | omega | (rw [insQ_f c20])))
      · refine AW.aload_n (pc' := 24) dX7_enter_23 rfl ?_
        refine AW.iload (pc' := 26) dX7_enter_24 rfl ?_
        refine AW.aload_n (pc' := 27) dX7_enter_26 rfl ?_
        refine AW.iload (pc' := 29) dX7_enter_27 rfl ?_
        refine AW.iconst (pc' := 30) dX7_enter_29 ?_
        refine AW.isub (pc' := 31) dX7_enter_30 ?_
        first | refine AW.ialdN (pc' := 32) dX7_enter_31 ly_19 (by first | assumption | omega | (constructor <;> omega) | (simp only [Int.toNat_natCast]; omega) | exact b2_in _) (by decide) (fun r31 => ?_) | refine AW.iald (pc' := 32) dX7_enter_31 ly_19 (by first | assumption | omega | (constructor <;> omega) | (simp only [Int.toNat_natCast]; omega) | exact b2_in _) (by first | assumption | omega | (constructor <;> omega) | (simp only [Int.toNat_natCast]; omega) | exact b2_in _) (by decide) (fun r31 => ?_)
        try simp only [ek, w13, w14, w15, tk] at r31 ⊢
        first | refine AW.iastN (pc' := 33) dX7_enter_32 ly_19 (by first | assumption | omega | (constructor <;> omega) | (simp only [Int.toNat_natCast]; omega) | exact b2_in _) (by decide) (by first | assumption | omega | (constructor <;> omega) | (simp only [Int.toNat_natCast]; omega) | exact b2_in _) ?_ | refine AW.iast (pc' := 33) dX7_enter_32 ly_19 (by first | assumption | omega | (constructor <;> omega) | (simp only [Int.toNat_natCast]; omega) | exact b2_in _) (by first | assumption | omega | (constructor <;> omega) | (simp only [Int.toNat_natCast]; omega) | exact b2_in _) (by decide) (by first | assumption | omega | (constructor <;> omega) | (simp only [Int.toNat_natCast]; omega) | exact b2_in _) ?_
        refine AW.iinc4 (pc' := 36) dX7_enter_33 (by decide) rfl ?_
        refine AW.goto (tgt := 3) dX7_enter_36 ?_
        exact AW.weak (ih _ (by omega) (e1.st rfl) (fun j => by
            by_cases z : j = k + 1
            · subst z
              simp only [hset_app, true_and, and_true, reduceIte]
              rw [if_pos ⟨by omega, by omega⟩]
              rfl
            · simp only [hset_app, true_and, z, reduceIte]
              rw [t1 j]
              by_cases y : k + 1 < j ∧ (j : Int) ≤ b
              · rw [if_pos y, if_pos ⟨by omega, y.2⟩]
              · rw [if_neg y, if_neg (by omega)]) (by rw [insQ_t c20] at kk; exact kk)) (by (repeat' first | exact LSub.e | refine LSub.n ?_ | refine LSub.c ?_ ?_) <;> first | rfl | exact congrArg Sum.inl (by first | rfl | omega | (push_cast; omega)))
set_option maxRecDepth 100000 in
set_option maxHeartbeats 4000000 in
theorem c_X7_enterC {K : KT} {dep : Nat} {h : Hp} {b : Int} (hd : 1 ≤ dep) (q0 : 0 ≤ b ∧ b < 120) (hQ : ∀ k : Nat, (k : Int) < b → 0 ≤ h 19 k ∧ h 19 k < 120) : AMp K yX7_enter cX7_enter 5 none dep [vR 12, vR 19, vR 14, vI b] h none (fun x => EX [19] h x ∧ ∀ j : Nat, x 19 j = if j = insQ (h 14) (h 15) (h 19) b b.toNat then b else if insQ (h 14) (h 15) (h 19) b b.toNat < j ∧ (j : Int) ≤ b then h 19 (j - 1) else h 19 j) := by
  refine AM.of (own := RX7) (ls := [some (vR 12), some (vR 19), some (vR 14), some (vI b), none]) rfl (by decide +kernel) (by exact Nat.le_of_ble_eq_true rfl) rfl (fun hO => ?_)
  refine AW.iload_n (pc' := 1) dX7_enter_0 rfl ?_
  refine AW.istore4 (pc' := 3) dX7_enter_1 (by decide) rfl ?_
  refine AW.weak (lp_X7_enterC q0 hQ hd b.toNat h (by omega) EX.rf (fun j => by rw [if_neg (by omega)]) (fun h2 e2 t2 => ?_)) (by (repeat' first | exact LSub.e | refine LSub.n ?_ | refine LSub.c ?_ ?_) <;> first | rfl | exact congrArg Sum.inl (by first | rfl | omega | omega))
  have ip := insQ_le (h 14) (h 15) (h 19) b b.toNat
  refine AW.aload_n (pc' := 40) dX7_enter_39 rfl ?_
  refine AW.iload (pc' := 42) dX7_enter_40 rfl ?_
  refine AW.iload_n (pc' := 43) dX7_enter_42 rfl ?_
  first | refine AW.iastN (pc' := 44) dX7_enter_43 ly_19 (by first | assumption | omega | (constructor <;> omega) | (simp only [Int.toNat_natCast]; omega) | exact b2_in _) (by decide) (by first | assumption | omega | (constructor <;> omega) | (simp only [Int.toNat_natCast]; omega) | exact b2_in _) ?_ | refine AW.iast (pc' := 44) dX7_enter_43 ly_19 (by first | assumption | omega | (constructor <;> omega) | (simp only [Int.toNat_natCast]; omega) | exact b2_in _) (by first | assumption | omega | (constructor <;> omega) | (simp only [Int.toNat_natCast]; omega) | exact b2_in _) (by decide) (by first | assumption | omega | (constructor <;> omega) | (simp only [Int.toNat_natCast]; omega) | exact b2_in _) ?_
  refine AW.vret dX7_enter_44 ?_ ?_
  · rfl
  · refine ⟨e2.st rfl, fun j => ?_⟩
    simp only [hset_app, true_and]
    by_cases z : j = insQ (h 14) (h 15) (h 19) b b.toNat
    · rw [if_pos z, if_pos z]
    · rw [if_neg z, if_neg z, t2 j]
