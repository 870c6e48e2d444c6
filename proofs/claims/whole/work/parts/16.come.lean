/-! runs come: the two orders, ran -/
def insP (beh : Nat → Prop) (dec : ∀ k, Decidable (beh k)) : Nat → Nat
  | 0 => 0
  | k + 1 => match dec k with
    | .isTrue _ => insP beh dec k
    | .isFalse _ => k + 1
/-- does the order's k-th run stand behind the run b -/
abbrev behP (ow ye ord : Nat → Int) (b : Int) (k : Nat) : Prop := ow b.toNat < ow (ord k).toNat ∨ ow (ord k).toNat = ow b.toNat ∧ ye b.toNat < ye (ord k).toNat
abbrev insQ (ow ye ord : Nat → Int) (b : Int) (k : Nat) : Nat := insP (behP ow ye ord b) (fun k => inferInstance) k
theorem insQ_t {ow ye ord : Nat → Int} {b : Int} {k : Nat} (h : behP ow ye ord b k) : insQ ow ye ord b (k + 1) = insQ ow ye ord b k := by
  show insP _ _ (k + 1) = insP _ _ k
  rw [insP]
  split
  · rfl
  · rename_i z _; exact absurd h z
theorem insQ_f {ow ye ord : Nat → Int} {b : Int} {k : Nat} (h : ¬ behP ow ye ord b k) : insQ ow ye ord b (k + 1) = k + 1 := by
  show insP _ _ (k + 1) = k + 1
  rw [insP]
  split
  · rename_i z _; exact absurd z h
  · rfl
theorem insQ_le (ow ye ord : Nat → Int) (b : Int) : ∀ k : Nat, insQ ow ye ord b k ≤ k
  | 0 => Nat.le_refl _
  | k + 1 => by
    by_cases h : behP ow ye ord b k
    · rw [insQ_t h]; have := insQ_le ow ye ord b k; omega
    · rw [insQ_f h]; exact Nat.le_refl _
set_option maxRecDepth 100000 in
set_option maxHeartbeats 4000000 in
theorem lp_X7_enterR {K : KT} {X : XT} {dep : Nat} {h : Hp} {b : Int} (q0 : 0 ≤ b ∧ b < 120) (hQ : ∀ k : Nat, (k : Int) < b → 0 ≤ h 18 k ∧ h 18 k < 120) (hd : 1 ≤ dep) : ∀ (k : Nat) (h1 : Hp), (k : Int) ≤ b → EX [18] h h1 → (∀ j : Nat, h1 18 j = if k < j ∧ (j : Int) ≤ b then h 18 (j - 1) else h 18 j) → (∀ h2 : Hp, EX [18] h h2 → (∀ j : Nat, h2 18 j = if insQ (h 13) (h 15) (h 18) b k < j ∧ (j : Int) ≤ b then h 18 (j - 1) else h 18 j) → AW K X RX7 cX7_enter 5 none dep 39 [some (vR 12), some (vR 18), some (vR 13), some (vI (b)), some (vI (((insQ (h 13) (h 15) (h 18) b k : Nat) : Int)))] [] h2) → AW K X RX7 cX7_enter 5 none dep 3 [some (vR 12), some (vR 18), some (vR 13), some (vI (b)), some (vI ((k : Int)))] [] h1 := by
  intro k
  induction k with
  | zero =>
    intro h1 hk e1 t1 kk
    refine AW.iload (pc' := 5) dX7_enter_3 rfl ?_
    refine AW.if_le (tgt := 39) (pc' := 8) dX7_enter_5 (by first | assumption | omega | (constructor <;> omega) | (simp only [Int.toNat_natCast]; omega) | exact b2_in _) (fun c5 => ?_) (fun c5 => ?_)
    · exact AW.weak (kk h1 e1 t1) (by (repeat' first | exact LSub.e | refine LSub.n ?_ | refine LSub.c ?_ ?_) <;> first | rfl | exact congrArg Sum.inl (by first | rfl | omega | omega))
    · omega
  | succ k ih =>
    intro h1 hk e1 t1 kk
    have ek : (((k + 1 : Nat) : Int) - 1).toNat = k := by omega
    have w13 := e1 13 rfl
    have w14 := e1 14 rfl
    have w15 := e1 15 rfl
    have o1 := hQ k (by omega)
    have tk : h1 18 k = h 18 k := by rw [t1 k, if_neg (by omega)]
    refine AW.iload (pc' := 5) dX7_enter_3 rfl ?_
    refine AW.if_le (tgt := 39) (pc' := 8) dX7_enter_5 (by first | assumption | omega | (constructor <;> omega) | (simp only [Int.toNat_natCast]; omega) | exact b2_in _) (fun c5 => ?_) (fun c5 => ?_)
    · omega
    · refine AW.aload_n (pc' := 9) dX7_enter_8 rfl ?_
      refine AW.aload_n (pc' := 10) dX7_enter_9 rfl ?_
      refine AW.iload (pc' := 12) dX7_enter_10 rfl ?_
      refine AW.iconst (pc' := 13) dX7_enter_12 ?_
      refine AW.isub (pc' := 14) dX7_enter_13 ?_
      first | refine AW.ialdN (pc' := 15) dX7_enter_14 ly_18 (by first | assumption | omega | (constructor <;> omega) | (simp only [Int.toNat_natCast]; omega) | exact b2_in _) (by decide) (fun r14 => ?_) | refine AW.iald (pc' := 15) dX7_enter_14 ly_18 (by first | assumption | omega | (constructor <;> omega) | (simp only [Int.toNat_natCast]; omega) | exact b2_in _) (by first | assumption | omega | (constructor <;> omega) | (simp only [Int.toNat_natCast]; omega) | exact b2_in _) (by decide) (fun r14 => ?_)
      try simp only [ek, w13, w14, w15, tk] at r14 ⊢
      refine AW.iload_n (pc' := 16) dX7_enter_15 rfl ?_
      refine AW.aload_n (pc' := 17) dX7_enter_16 rfl ?_
      refine AW.invV3 (pc' := 20) dX7_enter_17 mlX7_52 mX7_isBehind ly_12 rfl (c_X7_isBehindR (dep := dep - 1) (by first | assumption | omega | (constructor <;> omega) | (simp only [Int.toNat_natCast]; omega) | exact b2_in _) (by first | assumption | omega | (constructor <;> omega) | (simp only [Int.toNat_natCast]; omega) | exact b2_in _)) ?_
      try simp only [Int.toNat_natCast, ek, w13, w14, w15, tk]
      refine AW.ifb_eq (tgt := 39) (pc' := 23) dX7_enter_20 (fun c20 => ?_) (fun c20 => ?_)
      · exact AW.weak (kk h1 e1 (by rw [insQ_f c20]; exact t1)) (by (repeat' first | exact LSub.e | refine LSub.n ?_ | refine LSub.c ?_ ?_) <;> first | rfl | exact congrArg Sum.inl (by first | rfl | omega | (rw [insQ_f c20])))
      · refine AW.aload_n (pc' := 24) dX7_enter_23 rfl ?_
        refine AW.iload (pc' := 26) dX7_enter_24 rfl ?_
        refine AW.aload_n (pc' := 27) dX7_enter_26 rfl ?_
        refine AW.iload (pc' := 29) dX7_enter_27 rfl ?_
        refine AW.iconst (pc' := 30) dX7_enter_29 ?_
        refine AW.isub (pc' := 31) dX7_enter_30 ?_
        first | refine AW.ialdN (pc' := 32) dX7_enter_31 ly_18 (by first | assumption | omega | (constructor <;> omega) | (simp only [Int.toNat_natCast]; omega) | exact b2_in _) (by decide) (fun r31 => ?_) | refine AW.iald (pc' := 32) dX7_enter_31 ly_18 (by first | assumption | omega | (constructor <;> omega) | (simp only [Int.toNat_natCast]; omega) | exact b2_in _) (by first | assumption | omega | (constructor <;> omega) | (simp only [Int.toNat_natCast]; omega) | exact b2_in _) (by decide) (fun r31 => ?_)
        try simp only [ek, w13, w14, w15, tk] at r31 ⊢
        first | refine AW.iastN (pc' := 33) dX7_enter_32 ly_18 (by first | assumption | omega | (constructor <;> omega) | (simp only [Int.toNat_natCast]; omega) | exact b2_in _) (by decide) (by first | assumption | omega | (constructor <;> omega) | (simp only [Int.toNat_natCast]; omega) | exact b2_in _) ?_ | refine AW.iast (pc' := 33) dX7_enter_32 ly_18 (by first | assumption | omega | (constructor <;> omega) | (simp only [Int.toNat_natCast]; omega) | exact b2_in _) (by first | assumption | omega | (constructor <;> omega) | (simp only [Int.toNat_natCast]; omega) | exact b2_in _) (by decide) (by first | assumption | omega | (constructor <;> omega) | (simp only [Int.toNat_natCast]; omega) | exact b2_in _) ?_
        refine AW.iinc4 (pc' := 36) dX7_enter_33 (by decide) rfl ?_
        refine AW.goto (tgt := 3) dX7_enter_36 ?_
        exact AW.weak (ih _ (by omega) (e1.st rfl) (fun j => by
            by_cases z : j = k + 1
            · subst z
              simp only [hset_app, true_and, and_true, reduceIte]
              rw [if_pos ⟨by omega, by omega⟩]
              rfl
            · simp only [hset_app, true_and, z, reduceIte]
              rw [t1 j]
              by_cases y : k + 1 < j ∧ (j : Int) ≤ b
              · rw [if_pos y, if_pos ⟨by omega, y.2⟩]
              · rw [if_neg y, if_neg (by omega)]) (by rw [insQ_t c20] at kk; exact kk)) (by (repeat' first | exact LSub.e | refine LSub.n ?_ | refine LSub.c ?_ ?_) <;> first | rfl | exact congrArg Sum.inl (by first | rfl | omega | (push_cast; omega)))
set_option maxRecDepth 100000 in
set_option maxHeartbeats 4000000 in
theorem c_X7_enterR {K : KT} {dep : Nat} {h : Hp} {b : Int} (hd : 1 ≤ dep) (q0 : 0 ≤ b ∧ b < 120) (hQ : ∀ k : Nat, (k : Int) < b → 0 ≤ h 18 k ∧ h 18 k < 120) : AMp K yX7_enter cX7_enter 5 none dep [vR 12, vR 18, vR 13, vI b] h none (fun x => EX [18] h x ∧ ∀ j : Nat, x 18 j = if j = insQ (h 13) (h 15) (h 18) b b.toNat then b else if insQ (h 13) (h 15) (h 18) b b.toNat < j ∧ (j : Int) ≤ b then h 18 (j - 1) else h 18 j) := by
  refine AM.of (own := RX7) (ls := [some (vR 12), some (vR 18), some (vR 13), some (vI b), none]) rfl (by decide +kernel) (by exact Nat.le_of_ble_eq_true rfl) rfl (fun hO => ?_)
  refine AW.iload_n (pc' := 1) dX7_enter_0 rfl ?_
  refine AW.istore4 (pc' := 3) dX7_enter_1 (by decide) rfl ?_
  refine AW.weak (lp_X7_enterR q0 hQ hd b.toNat h (by omega) EX.rf (fun j => by rw [if_neg (by omega)]) (fun h2 e2 t2 => ?_)) (by (repeat' first | exact LSub.e | refine LSub.n ?_ | refine LSub.c ?_ ?_) <;> first | rfl | exact congrArg Sum.inl (by first | rfl | omega | omega))
  have ip := insQ_le (h 13) (h 15) (h 18) b b.toNat
  refine AW.aload_n (pc' := 40) dX7_enter_39 rfl ?_
  refine AW.iload (pc' := 42) dX7_enter_40 rfl ?_
  refine AW.iload_n (pc' := 43) dX7_enter_42 rfl ?_
  first | refine AW.iastN (pc' := 44) dX7_enter_43 ly_18 (by first | assumption | omega | (constructor <;> omega) | (simp only [Int.toNat_natCast]; omega) | exact b2_in _) (by decide) (by first | assumption | omega | (constructor <;> omega) | (simp only [Int.toNat_natCast]; omega) | exact b2_in _) ?_ | refine AW.iast (pc' := 44) dX7_enter_43 ly_18 (by first | assumption | omega | (constructor <;> omega) | (simp only [Int.toNat_natCast]; omega) | exact b2_in _) (by first | assumption | omega | (constructor <;> omega) | (simp only [Int.toNat_natCast]; omega) | exact b2_in _) (by decide) (by first | assumption | omega | (constructor <;> omega) | (simp only [Int.toNat_natCast]; omega) | exact b2_in _) ?_
  refine AW.vret dX7_enter_44 ?_ ?_
  · rfl
  · refine ⟨e2.st rfl, fun j => ?_⟩
    simp only [hset_app, true_and]
    by_cases z : j = insQ (h 13) (h 15) (h 18) b b.toNat
    · rw [if_pos z, if_pos z]
    · rw [if_neg z, if_neg z, t2 j]
set_option maxRecDepth 100000 in
set_option maxHeartbeats 4000000 in
theorem lp_X7_enterC {K : KT} {X : XT} {dep : Nat} {h : Hp} {b : Int} (q0 : 0 ≤ b ∧ b < 120) (hQ : ∀ k : Nat, (k : Int) < b → 0 ≤ h 19 k ∧ h 19 k < 120) (hd : 1 ≤ dep) : ∀ (k : Nat) (h1 : Hp), (k : Int) ≤ b → EX [19] h h1 → (∀ j : Nat, h1 19 j = if k < j ∧ (j : Int) ≤ b then h 19 (j - 1) else h 19 j) → (∀ h2 : Hp, EX [19] h h2 → (∀ j : Nat, h2 19 j = if insQ (h 14) (h 15) (h 19) b k < j ∧ (j : Int) ≤ b then h 19 (j - 1) else h 19 j) → AW K X RX7 cX7_enter 5 none dep 39 [some (vR 12), some (vR 19), some (vR 14), some (vI (b)), some (vI (((insQ (h 14) (h 15) (h 19) b k : Nat) : Int)))] [] h2) → AW K X RX7 cX7_enter 5 none dep 3 [some (vR 12), some (vR 19), some (vR 14), some (vI (b)), some (vI ((k : Int)))] [] h1 := by
  intro k
  induction k with
  | zero =>
    intro h1 hk e1 t1 kk
    refine AW.iload (pc' := 5) dX7_enter_3 rfl ?_
    refine AW.if_le (tgt := 39) (pc' := 8) dX7_enter_5 (by first | assumption | omega | (constructor <;> omega) | (simp only [Int.toNat_natCast]; omega) | exact b2_in _) (fun c5 => ?_) (fun c5 => ?_)
    · exact AW.weak (kk h1 e1 t1) (by (repeat' first | exact LSub.e | refine LSub.n ?_ | refine LSub.c ?_ ?_) <;> first | rfl | exact congrArg Sum.inl (by first | rfl | omega | omega))
    · omega
  | succ k ih =>
    intro h1 hk e1 t1 kk
    have ek : (((k + 1 : Nat) : Int) - 1).toNat = k := by omega
    have w13 := e1 13 rfl
    have w14 := e1 14 rfl
    have w15 := e1 15 rfl
    have o1 := hQ k (by omega)
    have tk : h1 19 k = h 19 k := by rw [t1 k, if_neg (by omega)]
    refine AW.iload (pc' := 5) dX7_enter_3 rfl ?_
    refine AW.if_le (tgt := 39) (pc' := 8) dX7_enter_5 (by first | assumption | omega | (constructor <;> omega) | (simp only [Int.toNat_natCast]; omega) | exact b2_in _) (fun c5 => ?_) (fun c5 => ?_)
    · omega
    · refine AW.aload_n (pc' := 9) dX7_enter_8 rfl ?_
      refine AW.aload_n (pc' := 10) dX7_enter_9 rfl ?_
      refine AW.iload (pc' := 12) dX7_enter_10 rfl ?_
      refine AW.iconst (pc' := 13) dX7_enter_12 ?_
      refine AW.isub (pc' := 14) dX7_enter_13 ?_
      first | refine AW.ialdN (pc' := 15) dX7_enter_14 ly_19 (by first | assumption | omega | (constructor <;> omega) | (simp only [Int.toNat_natCast]; omega) | exact b2_in _) (by decide) (fun r14 => ?_) | refine AW.iald (pc' := 15) dX7_enter_14 ly_19 (by first | assumption | omega | (constructor <;> omega) | (simp only [Int.toNat_natCast]; omega) | exact b2_in _) (by first | assumption | omega | (constructor <;> omega) | (simp only [Int.toNat_natCast]; omega) | exact b2_in _) (by decide) (fun r14 => ?_)
      try simp only [ek, w13, w14, w15, tk] at r14 ⊢
      refine AW.iload_n (pc' := 16) dX7_enter_15 rfl ?_
      refine AW.aload_n (pc' := 17) dX7_enter_16 rfl ?_
      refine AW.invV3 (pc' := 20) dX7_enter_17 mlX7_52 mX7_isBehind ly_12 rfl (c_X7_isBehindC (dep := dep - 1) (by first | assumption | omega | (constructor <;> omega) | (simp only [Int.toNat_natCast]; omega) | exact b2_in _) (by first | assumption | omega | (constructor <;> omega) | (simp only [Int.toNat_natCast]; omega) | exact b2_in _)) ?_
      try simp only [Int.toNat_natCast, ek, w13, w14, w15, tk]
      refine AW.ifb_eq (tgt := 39) (pc' := 23) dX7_enter_20 (fun c20 => ?_) (fun c20 => ?_)
      · exact AW.weak (kk h1 e1 (by rw [insQ_f c20]; exact t1)) (by (repeat' first | exact LSub.e | refine LSub.n ?_ | refine LSub.c ?_ ?_) <;> first | rfl | exact congrArg Sum.inl (by first | rfl | omega | (rw [insQ_f c20])))
      · refine AW.aload_n (pc' := 24) dX7_enter_23 rfl ?_
        refine AW.iload (pc' := 26) dX7_enter_24 rfl ?_
        refine AW.aload_n (pc' := 27) dX7_enter_26 rfl ?_
        refine AW.iload (pc' := 29) dX7_enter_27 rfl ?_
        refine AW.iconst (pc' := 30) dX7_enter_29 ?_
        refine AW.isub (pc' := 31) dX7_enter_30 ?_
        first | refine AW.ialdN (pc' := 32) dX7_enter_31 ly_19 (by first | assumption | omega | (constructor <;> omega) | (simp only [Int.toNat_natCast]; omega) | exact b2_in _) (by decide) (fun r31 => ?_) | refine AW.iald (pc' := 32) dX7_enter_31 ly_19 (by first | assumption | omega | (constructor <;> omega) | (simp only [Int.toNat_natCast]; omega) | exact b2_in _) (by first | assumption | omega | (constructor <;> omega) | (simp only [Int.toNat_natCast]; omega) | exact b2_in _) (by decide) (fun r31 => ?_)
        try simp only [ek, w13, w14, w15, tk] at r31 ⊢
        first | refine AW.iastN (pc' := 33) dX7_enter_32 ly_19 (by first | assumption | omega | (constructor <;> omega) | (simp only [Int.toNat_natCast]; omega) | exact b2_in _) (by decide) (by first | assumption | omega | (constructor <;> omega) | (simp only [Int.toNat_natCast]; omega) | exact b2_in _) ?_ | refine AW.iast (pc' := 33) dX7_enter_32 ly_19 (by first | assumption | omega | (constructor <;> omega) | (simp only [Int.toNat_natCast]; omega) | exact b2_in _) (by first | assumption | omega | (constructor <;> omega) | (simp only [Int.toNat_natCast]; omega) | exact b2_in _) (by decide) (by first | assumption | omega | (constructor <;> omega) | (simp only [Int.toNat_natCast]; omega) | exact b2_in _) ?_
        refine AW.iinc4 (pc' := 36) dX7_enter_33 (by decide) rfl ?_
        refine AW.goto (tgt := 3) dX7_enter_36 ?_
        exact AW.weak (ih _ (by omega) (e1.st rfl) (fun j => by
            by_cases z : j = k + 1
            · subst z
              simp only [hset_app, true_and, and_true, reduceIte]
              rw [if_pos ⟨by omega, by omega⟩]
              rfl
            · simp only [hset_app, true_and, z, reduceIte]
              rw [t1 j]
              by_cases y : k + 1 < j ∧ (j : Int) ≤ b
              · rw [if_pos y, if_pos ⟨by omega, y.2⟩]
              · rw [if_neg y, if_neg (by omega)]) (by rw [insQ_t c20] at kk; exact kk)) (by (repeat' first | exact LSub.e | refine LSub.n ?_ | refine LSub.c ?_ ?_) <;> first | rfl | exact congrArg Sum.inl (by first | rfl | omega | (push_cast; omega)))
set_option maxRecDepth 100000 in
set_option maxHeartbeats 4000000 in
theorem c_X7_enterC {K : KT} {dep : Nat} {h : Hp} {b : Int} (hd : 1 ≤ dep) (q0 : 0 ≤ b ∧ b < 120) (hQ : ∀ k : Nat, (k : Int) < b → 0 ≤ h 19 k ∧ h 19 k < 120) : AMp K yX7_enter cX7_enter 5 none dep [vR 12, vR 19, vR 14, vI b] h none (fun x => EX [19] h x ∧ ∀ j : Nat, x 19 j = if j = insQ (h 14) (h 15) (h 19) b b.toNat then b else if insQ (h 14) (h 15) (h 19) b b.toNat < j ∧ (j : Int) ≤ b then h 19 (j - 1) else h 19 j) := by
  refine AM.of (own := RX7) (ls := [some (vR 12), some (vR 19), some (vR 14), some (vI b), none]) rfl (by decide +kernel) (by exact Nat.le_of_ble_eq_true rfl) rfl (fun hO => ?_)
  refine AW.iload_n (pc' := 1) dX7_enter_0 rfl ?_
  refine AW.istore4 (pc' := 3) dX7_enter_1 (by decide) rfl ?_
  refine AW.weak (lp_X7_enterC q0 hQ hd b.toNat h (by omega) EX.rf (fun j => by rw [if_neg (by omega)]) (fun h2 e2 t2 => ?_)) (by (repeat' first | exact LSub.e | refine LSub.n ?_ | refine LSub.c ?_ ?_) <;> first | rfl | exact congrArg Sum.inl (by first | rfl | omega | omega))
  have ip := insQ_le (h 14) (h 15) (h 19) b b.toNat
  refine AW.aload_n (pc' := 40) dX7_enter_39 rfl ?_
  refine AW.iload (pc' := 42) dX7_enter_40 rfl ?_
  refine AW.iload_n (pc' := 43) dX7_enter_42 rfl ?_
  first | refine AW.iastN (pc' := 44) dX7_enter_43 ly_19 (by first | assumption | omega | (constructor <;> omega) | (simp only [Int.toNat_natCast]; omega) | exact b2_in _) (by decide) (by first | assumption | omega | (constructor <;> omega) | (simp only [Int.toNat_natCast]; omega) | exact b2_in _) ?_ | refine AW.iast (pc' := 44) dX7_enter_43 ly_19 (by first | assumption | omega | (constructor <;> omega) | (simp only [Int.toNat_natCast]; omega) | exact b2_in _) (by first | assumption | omega | (constructor <;> omega) | (simp only [Int.toNat_natCast]; omega) | exact b2_in _) (by decide) (by first | assumption | omega | (constructor <;> omega) | (simp only [Int.toNat_natCast]; omega) | exact b2_in _) ?_
  refine AW.vret dX7_enter_44 ?_ ?_
  · rfl
  · refine ⟨e2.st rfl, fun j => ?_⟩
    simp only [hset_app, true_and]
    by_cases z : j = insQ (h 14) (h 15) (h 19) b b.toNat
    · rw [if_pos z, if_pos z]
    · rw [if_neg z, if_neg z, t2 j]
/-- the order's row behind the coming of the run n -/
def insR (ow ye ord : Nat → Int) (n : Int) (j : Nat) : Int := if j = insQ ow ye ord n n.toNat then n else if insQ ow ye ord n n.toNat < j ∧ (j : Int) ≤ n then ord (j - 1) else ord j
def upR (row : Nat → Int) (n : Nat) (v : Int) (j : Nat) : Int := if j = n then v else row j
/-- the heap behind the coming of a run -/
def CP (h : Hp) (a b c d e : Int) (x : Hp) : Prop := EX [12, 13, 14, 15, 16, 17, 18, 19] h x ∧ (∀ j : Nat, x 12 j = upR (h 12) 10 (h 12 10 + 1) j) ∧ (∀ j : Nat, x 13 j = upR (h 13) (h 12 10).toNat a j) ∧ (∀ j : Nat, x 14 j = upR (h 14) (h 12 10).toNat b j) ∧ (∀ j : Nat, x 15 j = upR (h 15) (h 12 10).toNat c j) ∧ (∀ j : Nat, x 16 j = upR (h 16) (h 12 10).toNat d j) ∧ (∀ j : Nat, x 17 j = upR (h 17) (h 12 10).toNat e j) ∧ (∀ j : Nat, x 18 j = insR (x 13) (x 15) (h 18) (h 12 10) j) ∧ ∀ j : Nat, x 19 j = insR (x 14) (x 15) (h 19) (h 12 10) j
set_option maxRecDepth 100000 in
set_option maxHeartbeats 4000000 in
theorem c_X7_comeFull {K : KT} {dep : Nat} {h : Hp} {a b c d e : Int}  (q0 : 120 ≤ h 12 10) (q1 : inI a) (q2 : inI b) (q3 : inI c) (q4 : inI d) (q5 : inI e) : AM K yX7_come cX7_come 7 (some .int) dep [vR 12, vI a, vI b, vI c, vI d, vI e] h (some (vI (-3))) (h) := by
  refine AM.of (own := RX7) (ls := [some (vR 12), some (vI a), some (vI b), some (vI c), some (vI d), some (vI e), none]) rfl (by decide +kernel) (by exact Nat.le_of_ble_eq_true rfl) rfl (fun hO => ?_)
  refine AW.aload_n (pc' := 1) dX7_come_0 rfl ?_
  refine AW.getI (pc' := 4) dX7_come_1 ly_12 fX7_44 rfl (fun r1 => ?_)
  refine AW.bipush (pc' := 6) dX7_come_4 (by decide) ?_
  refine AW.icmp_lt (tgt := 12) (pc' := 9) dX7_come_6 (by first | assumption | omega | (constructor <;> omega) | (simp only [Int.toNat_natCast]; omega) | exact b2_in _) (by first | assumption | omega | (constructor <;> omega) | (simp only [Int.toNat_natCast]; omega) | exact b2_in _) (fun c6 => ?_) (fun c6 => ?_)
  · omega
  · refine AW.bipush (pc' := 11) dX7_come_9 (by decide) ?_
    refine AW.iret dX7_come_11 ?_ ?_
    all_goals first | rfl | exact congrArg (fun z : Int => (some (vI z) : Option AV)) (b2_t (by omega)) | exact congrArg (fun z : Int => (some (vI z) : Option AV)) (b2_f (by omega)) | ((repeat' split) <;> first | rfl | omega) | (refine congrArg (fun z : Int => (some (vI z) : Option AV)) ?_; (repeat' split) <;> first | rfl | omega)
set_option maxRecDepth 100000 in
set_option maxHeartbeats 4000000 in
theorem c_X7_come {K : KT} {dep : Nat} {h : Hp} {a b c d e : Int} (hd : 2 ≤ dep) (q0 : 0 ≤ h 12 10 ∧ h 12 10 < 120) (hQ : PO (h 12 10) (h 18)) (hQ2 : PO (h 12 10) (h 19)) (q3 : inI a) (q4 : inI b) (q5 : inI c) (q6 : inI d) (q7 : inI e) : AMp K yX7_come cX7_come 7 (some .int) dep [vR 12, vI a, vI b, vI c, vI d, vI e] h (some (vI (h 12 10))) (CP h a b c d e) := by
  refine AM.of (own := RX7) (ls := [some (vR 12), some (vI a), some (vI b), some (vI c), some (vI d), some (vI e), none]) rfl (by decide +kernel) (by exact Nat.le_of_ble_eq_true rfl) rfl (fun hO => ?_)
  refine AW.aload_n (pc' := 1) dX7_come_0 rfl ?_
  refine AW.getI (pc' := 4) dX7_come_1 ly_12 fX7_44 rfl (fun r1 => ?_)
  try simp only [g12] at r1 ⊢
  refine AW.bipush (pc' := 6) dX7_come_4 (by decide) ?_
  refine AW.icmp_lt (tgt := 12) (pc' := 9) dX7_come_6 (by first | assumption | omega | (constructor <;> omega) | (simp only [Int.toNat_natCast]; omega) | exact b2_in _) (by first | assumption | omega | (constructor <;> omega) | (simp only [Int.toNat_natCast]; omega) | exact b2_in _) (fun c6 => ?_) (fun c6 => ?_)
  · refine AW.aload_n (pc' := 13) dX7_come_12 rfl ?_
    refine AW.getI (pc' := 16) dX7_come_13 ly_12 fX7_44 rfl (fun r13 => ?_)
    try simp only [g12] at r13 ⊢
    refine AW.istore6 (pc' := 18) dX7_come_16 (by decide) rfl ?_
    refine AW.aload_n (pc' := 19) dX7_come_18 rfl ?_
    refine AW.getR (pc' := 22) dX7_come_19 ly_12 fX7_9 rfl ?_
    refine AW.iload (pc' := 24) dX7_come_22 rfl ?_
    refine AW.iload_n (pc' := 25) dX7_come_24 rfl ?_
    first | refine AW.iastN (pc' := 26) dX7_come_25 ly_13 (by first | assumption | omega | (constructor <;> omega) | (simp only [Int.toNat_natCast]; omega) | exact b2_in _) (by decide) (by first | assumption | omega | (constructor <;> omega) | (simp only [Int.toNat_natCast]; omega) | exact b2_in _) ?_ | refine AW.iast (pc' := 26) dX7_come_25 ly_13 (by first | assumption | omega | (constructor <;> omega) | (simp only [Int.toNat_natCast]; omega) | exact b2_in _) (by first | assumption | omega | (constructor <;> omega) | (simp only [Int.toNat_natCast]; omega) | exact b2_in _) (by decide) (by first | assumption | omega | (constructor <;> omega) | (simp only [Int.toNat_natCast]; omega) | exact b2_in _) ?_
    refine AW.aload_n (pc' := 27) dX7_come_26 rfl ?_
    refine AW.getR (pc' := 30) dX7_come_27 ly_12 fX7_15 rfl ?_
    refine AW.iload (pc' := 32) dX7_come_30 rfl ?_
    refine AW.iload_n (pc' := 33) dX7_come_32 rfl ?_
    first | refine AW.iastN (pc' := 34) dX7_come_33 ly_14 (by first | assumption | omega | (constructor <;> omega) | (simp only [Int.toNat_natCast]; omega) | exact b2_in _) (by decide) (by first | assumption | omega | (constructor <;> omega) | (simp only [Int.toNat_natCast]; omega) | exact b2_in _) ?_ | refine AW.iast (pc' := 34) dX7_come_33 ly_14 (by first | assumption | omega | (constructor <;> omega) | (simp only [Int.toNat_natCast]; omega) | exact b2_in _) (by first | assumption | omega | (constructor <;> omega) | (simp only [Int.toNat_natCast]; omega) | exact b2_in _) (by decide) (by first | assumption | omega | (constructor <;> omega) | (simp only [Int.toNat_natCast]; omega) | exact b2_in _) ?_
    refine AW.aload_n (pc' := 35) dX7_come_34 rfl ?_
    refine AW.getR (pc' := 38) dX7_come_35 ly_12 fX7_18 rfl ?_
    refine AW.iload (pc' := 40) dX7_come_38 rfl ?_
    refine AW.iload_n (pc' := 41) dX7_come_40 rfl ?_
    first | refine AW.iastN (pc' := 42) dX7_come_41 ly_15 (by first | assumption | omega | (constructor <;> omega) | (simp only [Int.toNat_natCast]; omega) | exact b2_in _) (by decide) (by first | assumption | omega | (constructor <;> omega) | (simp only [Int.toNat_natCast]; omega) | exact b2_in _) ?_ | refine AW.iast (pc' := 42) dX7_come_41 ly_15 (by first | assumption | omega | (constructor <;> omega) | (simp only [Int.toNat_natCast]; omega) | exact b2_in _) (by first | assumption | omega | (constructor <;> omega) | (simp only [Int.toNat_natCast]; omega) | exact b2_in _) (by decide) (by first | assumption | omega | (constructor <;> omega) | (simp only [Int.toNat_natCast]; omega) | exact b2_in _) ?_
    refine AW.aload_n (pc' := 43) dX7_come_42 rfl ?_
    refine AW.getR (pc' := 46) dX7_come_43 ly_12 fX7_21 rfl ?_
    refine AW.iload (pc' := 48) dX7_come_46 rfl ?_
    refine AW.iload (pc' := 50) dX7_come_48 rfl ?_
    first | refine AW.iastN (pc' := 51) dX7_come_50 ly_16 (by first | assumption | omega | (constructor <;> omega) | (simp only [Int.toNat_natCast]; omega) | exact b2_in _) (by decide) (by first | assumption | omega | (constructor <;> omega) | (simp only [Int.toNat_natCast]; omega) | exact b2_in _) ?_ | refine AW.iast (pc' := 51) dX7_come_50 ly_16 (by first | assumption | omega | (constructor <;> omega) | (simp only [Int.toNat_natCast]; omega) | exact b2_in _) (by first | assumption | omega | (constructor <;> omega) | (simp only [Int.toNat_natCast]; omega) | exact b2_in _) (by decide) (by first | assumption | omega | (constructor <;> omega) | (simp only [Int.toNat_natCast]; omega) | exact b2_in _) ?_
    refine AW.aload_n (pc' := 52) dX7_come_51 rfl ?_
    refine AW.getR (pc' := 55) dX7_come_52 ly_12 fX7_24 rfl ?_
    refine AW.iload (pc' := 57) dX7_come_55 rfl ?_
    refine AW.iload (pc' := 59) dX7_come_57 rfl ?_
    first | refine AW.iastN (pc' := 60) dX7_come_59 ly_17 (by first | assumption | omega | (constructor <;> omega) | (simp only [Int.toNat_natCast]; omega) | exact b2_in _) (by decide) (by first | assumption | omega | (constructor <;> omega) | (simp only [Int.toNat_natCast]; omega) | exact b2_in _) ?_ | refine AW.iast (pc' := 60) dX7_come_59 ly_17 (by first | assumption | omega | (constructor <;> omega) | (simp only [Int.toNat_natCast]; omega) | exact b2_in _) (by first | assumption | omega | (constructor <;> omega) | (simp only [Int.toNat_natCast]; omega) | exact b2_in _) (by decide) (by first | assumption | omega | (constructor <;> omega) | (simp only [Int.toNat_natCast]; omega) | exact b2_in _) ?_
    obtain ⟨h5, gh5⟩ : ∃ z, z = hset (hset (hset (hset (hset h 13 (h 12 10).toNat a) 14 (h 12 10).toNat b) 15 (h 12 10).toNat c) 16 (h 12 10).toNat d) 17 (h 12 10).toNat e := ⟨_, rfl⟩
    rw [← gh5]
    have e5 : EX [13, 14, 15, 16, 17] h h5 := by rw [gh5]; exact ((((EX.rf.st rfl).st rfl).st rfl).st rfl).st rfl
    have hq18 : ∀ k : Nat, (k : Int) < h 12 10 → 0 ≤ h5 18 k ∧ h5 18 k < 120 := fun k hk => by rw [e5 18 rfl]; have := hQ k hk; omega
    refine AW.aload_n (pc' := 61) dX7_come_60 rfl ?_
    refine AW.aload_n (pc' := 62) dX7_come_61 rfl ?_
    refine AW.getR (pc' := 65) dX7_come_62 ly_12 fX7_27 rfl ?_
    refine AW.aload_n (pc' := 66) dX7_come_65 rfl ?_
    refine AW.getR (pc' := 69) dX7_come_66 ly_12 fX7_9 rfl ?_
    refine AW.iload (pc' := 71) dX7_come_69 rfl ?_
    refine AW.invQ3v (pc' := 74) dX7_come_71 mlX7_48 mX7_enter ly_12 rfl (c_X7_enterR (dep := dep - 1) (by first | assumption | omega | (constructor <;> omega) | (simp only [Int.toNat_natCast]; omega) | exact b2_in _) (by first | assumption | omega | (constructor <;> omega) | (simp only [Int.toNat_natCast]; omega) | exact b2_in _) (by assumption)) (fun h71 s71 => ?_)
    try simp only [Int.toNat_natCast, g12]
    obtain ⟨e6, t6⟩ := s71
    have hq19 : ∀ k : Nat, (k : Int) < h 12 10 → 0 ≤ h71 19 k ∧ h71 19 k < 120 := fun k hk => by rw [e6 19 rfl, e5 19 rfl]; have := hQ2 k hk; omega
    refine AW.aload_n (pc' := 75) dX7_come_74 rfl ?_
    refine AW.aload_n (pc' := 76) dX7_come_75 rfl ?_
    refine AW.getR (pc' := 79) dX7_come_76 ly_12 fX7_30 rfl ?_
    refine AW.aload_n (pc' := 80) dX7_come_79 rfl ?_
    refine AW.getR (pc' := 83) dX7_come_80 ly_12 fX7_15 rfl ?_
    refine AW.iload (pc' := 85) dX7_come_83 rfl ?_
    refine AW.invQ3v (pc' := 88) dX7_come_85 mlX7_48 mX7_enter ly_12 rfl (c_X7_enterC (dep := dep - 1) (by first | assumption | omega | (constructor <;> omega) | (simp only [Int.toNat_natCast]; omega) | exact b2_in _) (by first | assumption | omega | (constructor <;> omega) | (simp only [Int.toNat_natCast]; omega) | exact b2_in _) (by assumption)) (fun h85 s85 => ?_)
    try simp only [Int.toNat_natCast, g12]
    obtain ⟨e7, t7⟩ := s85
    have g12 : h85 12 = h 12 := (e7 12 rfl).trans ((e6 12 rfl).trans (e5 12 rfl))
    refine AW.aload_n (pc' := 89) dX7_come_88 rfl ?_
    refine AW.dup (pc' := 90) dX7_come_89 rfl ?_
    refine AW.getI (pc' := 93) dX7_come_90 ly_12 fX7_44 rfl (fun r90 => ?_)
    try simp only [g12] at r90 ⊢
    refine AW.iconst (pc' := 94) dX7_come_93 ?_
    refine AW.iadd (pc' := 95) dX7_come_94 ?_
    refine AW.putI (pc' := 98) dX7_come_95 ly_12 pX7_44 rfl (by first | assumption | omega | (constructor <;> omega) | (simp only [Int.toNat_natCast]; omega) | exact b2_in _) ?_
    refine AW.iload (pc' := 100) dX7_come_98 rfl ?_
    refine AW.iret dX7_come_100 ?_ ?_
    · rfl
    · have r13 : h85 13 = h5 13 := (e7 13 rfl).trans (e6 13 rfl)
      have r14 : h85 14 = h5 14 := (e7 14 rfl).trans (e6 14 rfl)
      have r15 : h85 15 = h5 15 := (e7 15 rfl).trans (e6 15 rfl)
      have r16 : h85 16 = h5 16 := (e7 16 rfl).trans (e6 16 rfl)
      have r17 : h85 17 = h5 17 := (e7 17 rfl).trans (e6 17 rfl)
      have u : ∀ k : Nat, k ≠ 12 → hset h85 12 10 (h 12 10 + 1) k = h85 k := fun k hk => hset_other k hk
      have ex : EX [12, 13, 14, 15, 16, 17, 18, 19] h h85 := ((e5.wd (fun k hk => by simp at hk ⊢; omega)).tr (e6.wd (fun k hk => by simp at hk ⊢; omega))).tr (e7.wd (fun k hk => by simp at hk ⊢; omega))
      unfold CP
      rw [u 13 (by decide), u 14 (by decide), u 15 (by decide), u 16 (by decide), u 17 (by decide), u 18 (by decide), u 19 (by decide)]
      refine ⟨ex.st rfl, fun j => ?_, fun j => ?_, fun j => ?_, fun j => ?_, fun j => ?_, fun j => ?_, fun j => ?_, fun j => ?_⟩
      · simp only [hset_app, upR, true_and, g12]
      · rw [r13, gh5]; simp [hset_app, upR]
      · rw [r14, gh5]; simp [hset_app, upR]
      · rw [r15, gh5]; simp [hset_app, upR]
      · rw [r16, gh5]; simp [hset_app, upR]
      · rw [r17, gh5]; simp [hset_app, upR]
      · rw [e7 18 rfl, r13, r15, t6 j, e5 18 rfl]; rfl
      · rw [t7 j, e6 19 rfl, e5 19 rfl, e6 14 rfl, e6 15 rfl, r14, r15]; rfl
  · omega
