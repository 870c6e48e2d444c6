/-! the class: what a race may gain where some shoes aren't seen -/
/-- the sum of f at k .. k + n - 1 -/
def smF (f : Nat → Int) : Nat → Nat → Int
  | 0, _ => 0
  | n + 1, k => f k + smF f n (k + 1)
theorem smF_last (f : Nat → Int) : ∀ n k : Nat, smF f (n + 1) k = smF f n k + f (k + n)
  | 0, k => by simp [smF]
  | n + 1, k => by
    have q := smF_last f n (k + 1)
    rw [show k + (n + 1) = k + 1 + n by omega]
    have a : smF f (n + 1 + 1) k = f k + smF f (n + 1) (k + 1) := rfl
    have b : smF f (n + 1) k = f k + smF f n (k + 1) := rfl
    omega
theorem smF_rev (f : Nat → Int) : ∀ n k a : Nat, smF (fun j => f (a + k + n - 1 - j)) n k = smF f n a
  | 0, k, a => rfl
  | n + 1, k, a => by
    have q := smF_rev f n (k + 1) a
    rw [smF_last f n a]
    show f (a + k + (n + 1) - 1 - k) + smF (fun j => f (a + k + (n + 1) - 1 - j)) n (k + 1) = _
    rw [show a + k + (n + 1) - 1 - k = a + n by omega]
    rw [show (fun j => f (a + k + (n + 1) - 1 - j)) = (fun j => f (a + (k + 1) + n - 1 - j)) from funext fun j => by congr 1; omega, q]
    omega
theorem smF_in {f : Nat → Int} {A B : Int} : ∀ n k : Nat, (∀ j : Nat, k ≤ j → j < k + n → A ≤ f j ∧ f j ≤ B) → A * (n : Int) ≤ smF f n k ∧ smF f n k ≤ B * (n : Int)
  | 0, k, h => by simp [smF]
  | n + 1, k, h => by
    have q := smF_in (f := f) (A := A) (B := B) n (k + 1) (fun j h1 h2 => h j (by omega) (by omega))
    have z := h k (Nat.le_refl _) (by omega)
    have e : smF f (n + 1) k = f k + smF f n (k + 1) := rfl
    have ea : A * ((n + 1 : Nat) : Int) = A * (n : Int) + A := by push_cast; rw [Int.mul_add, Int.mul_one]
    have eb : B * ((n + 1 : Nat) : Int) = B * (n : Int) + B := by push_cast; rw [Int.mul_add, Int.mul_one]
    omega
/-- which of the levels comes next -/
def ixG (g : Prop) [Decidable g] (m k : Nat) : Nat := if g then k else m - 1 - k
def adO (row : Nat → Int) (k : Nat) (t : T4) : T4 := (t.1 + row k, t.2.1, t.2.2.1 + 1, t.2.2.2)
def trN (lv : Int) (t : T4) : T4 := (t.1 - lv, t.2.1 + lv, t.2.2.1 - 1, t.2.2.2 + 1)
def fuS (g : Prop) [Decidable g] (row : Nat → Int) (m k : Nat) (s : T4 × Int) : T4 × Int := (trN (row (ixG g m k)) s.1, fur g s.2 (tgain (trN (row (ixG g m k)) s.1)))
def fuF (g : Prop) [Decidable g] (t : T4) (m : Nat) (row : Nat → Int) : Int := (lp (fuS g row m) m 0 (lp (adO row) m 0 t, tgain (lp (adO row) m 0 t))).2
theorem adO_eq (row : Nat → Int) : ∀ (n k : Nat) (t : T4), lp (adO row) n k t = (t.1 + smF row n k, t.2.1, t.2.2.1 + n, t.2.2.2)
  | 0, k, t => by simp [lp, smF]
  | n + 1, k, t => by
    have q := adO_eq row n (k + 1) (adO row k t)
    unfold lp
    rw [q]
    have e : smF row (n + 1) k = row k + smF row n (k + 1) := rfl
    rw [e]
    refine Prod.ext ?_ (Prod.ext ?_ (Prod.ext ?_ ?_)) <;> simp only [adO] <;> (try push_cast) <;> omega
theorem adO_in {row : Nat → Int} {m : Nat} {t : T4} {b : Int} (H : TI t b) (hr : ∀ j : Nat, j < m → 5 ≤ row j ∧ row j ≤ 59998) (n : Nat) (hn : n ≤ m) : TI (lp (adO row) n 0 t) (b + n) := by
  rw [adO_eq]
  have s := smF_in (f := row) (A := 5) (B := 59998) n 0 (fun j _ h => hr j (by omega))
  obtain ⟨h1, h2, h3, h4, h5, h6, h7⟩ := H
  refine ⟨?_, h2, ?_, ?_, ?_, h6, h7⟩ <;> simp only <;> omega
/-- in the loop of the turns: so much is left old -/
def FUI (g : Prop) [Decidable g] (row : Nat → Int) (m : Nat) (t : T4) (k : Nat) (s : T4) : Prop := s.1 = t.1 + smF (fun j => row (ixG g m j)) (m - k) k ∧ s.2.2.1 = t.2.2.1 + ((m - k : Nat) : Int) ∧ 0 ≤ s.2.2.2 ∧ s.2.2.2 ≤ t.2.2.2 + k ∧ 5 * s.2.2.2 ≤ s.2.1 ∧ s.2.1 ≤ 59998 * s.2.2.2
theorem ixG_lt {g : Prop} [d : Decidable g] {m k : Nat} (h : k < m) : ixG g m k < m := by unfold ixG; split <;> omega
theorem FUI.ti {g : Prop} [d : Decidable g] {row : Nat → Int} {m : Nat} {t : T4} {k : Nat} {s : T4} {b : Int} (H : TI t b) (hr : ∀ j : Nat, j < m → 5 ≤ row j ∧ row j ≤ 59998) (F : FUI g row m t k s) (hk : k ≤ m) : TI s (b + m) := by
  obtain ⟨f1, f2, f3, f4, f5, f6⟩ := F
  obtain ⟨h1, h2, h3, h4, h5, h6, h7⟩ := H
  have q := smF_in (f := fun j => row (ixG g m j)) (A := 5) (B := 59998) (m - k) k (fun j _ h => hr _ (ixG_lt (by omega)))
  refine ⟨?_, ?_, ?_, ?_, ?_, ?_, ?_⟩ <;> omega
theorem FUI.step {g : Prop} [d : Decidable g] {row : Nat → Int} {m : Nat} {t : T4} {k : Nat} {s : T4} (hr : ∀ j : Nat, j < m → 5 ≤ row j ∧ row j ≤ 59998) (F : FUI g row m t k s) (hk : k < m) : FUI g row m t (k + 1) (trN (row (ixG g m k)) s) := by
  obtain ⟨f1, f2, f3, f4, f5, f6⟩ := F
  have q := hr _ (ixG_lt (g := g) hk)
  have e : smF (fun j => row (ixG g m j)) (m - k) k = row (ixG g m k) + smF (fun j => row (ixG g m j)) (m - (k + 1)) (k + 1) := by
    rw [show m - k = m - (k + 1) + 1 by omega]
    rfl
  unfold FUI trN
  refine ⟨?_, ?_, ?_, ?_, ?_, ?_⟩ <;> simp only <;> omega
theorem FUI.zero {g : Prop} [d : Decidable g] {row : Nat → Int} {m : Nat} {t : T4} {b : Int} (H : TI t b) : FUI g row m t 0 (lp (adO row) m 0 t) := by
  rw [adO_eq]
  obtain ⟨h1, h2, h3, h4, h5, h6, h7⟩ := H
  refine ⟨?_, ?_, h2, ?_, h6, h7⟩
  · show t.1 + smF row m 0 = t.1 + smF (fun j => row (ixG g m j)) (m - 0) 0
    rw [Nat.sub_zero]
    by_cases z : g
    · rw [show (fun j => row (ixG g m j)) = row from funext fun j => by unfold ixG; rw [if_pos z]]
    · have r := smF_rev row m 0 0
      rw [show (fun j => row (ixG g m j)) = (fun j => row (0 + 0 + m - 1 - j)) from funext fun j => by unfold ixG; rw [if_neg z]; congr 1; omega, r]
  · show t.2.2.1 + (m : Int) = t.2.2.1 + ((m - 0 : Nat) : Int)
    omega
  · show t.2.2.2 ≤ t.2.2.2 + ((0 : Nat) : Int)
    omega
theorem FUI.in {g : Prop} [d : Decidable g] {row : Nat → Int} {m : Nat} {t : T4} {b : Int} (H : TI t b) (hr : ∀ j : Nat, j < m → 5 ≤ row j ∧ row j ≤ 59998) : ∀ (n k : Nat) (s : T4 × Int), k + n = m → FUI g row m t k s.1 → (s.2 = -2000000000 ∨ -12000000 ≤ s.2 ∧ s.2 ≤ 1000) → ((lp (fuS g row m) n k s).2 = -2000000000 ∨ -12000000 ≤ (lp (fuS g row m) n k s).2 ∧ (lp (fuS g row m) n k s).2 ≤ 1000)
  | 0, k, s, hk, F, h => h
  | n + 1, k, s, hk, F, h => by
    have f := F.step hr (by omega)
    have tg := tgain_in (f.ti H hr (by omega))
    unfold lp
    exact FUI.in H hr n (k + 1) _ (by omega) f (by unfold fuS fur; simp only; (repeat' split) <;> omega)
theorem fuF_in {g : Prop} [d : Decidable g] {row : Nat → Int} {m : Nat} {t : T4} {b : Int} (H : TI t b) (hr : ∀ j : Nat, j < m → 5 ≤ row j ∧ row j ≤ 59998) : fuF g t m row = -2000000000 ∨ -12000000 ≤ fuF g t m row ∧ fuF g t m row ≤ 1000 :=
  FUI.in H hr m 0 _ (by omega) (FUI.zero H) (tgain_in (adO_in H hr m (Nat.le_refl _)))
set_option maxRecDepth 100000 in
set_option maxHeartbeats 4000000 in
theorem c_X10_turnNew {K : KT} {dep : Nat} {h : Hp} {a : Int} (hd : 1 ≤ dep) (q0 : 0 ≤ a ∧ a ≤ 100000) (q1 : 0 ≤ h 39 1 ∧ h 39 1 ≤ 50000000 ∧ 0 ≤ h 39 0 ∧ h 39 0 ≤ 50000000) (q2 : 0 ≤ h 39 3 ∧ h 39 3 ≤ 900 ∧ 0 ≤ h 39 2 ∧ h 39 2 ≤ 900) : AM K yX10_turnNew cX10_turnNew 2 none dep [vR 39, vI a] h none (hset (hset (hset (hset h 39 0 (h 39 0 - a)) 39 2 (h 39 2 - 1)) 39 1 (h 39 1 + a)) 39 3 (h 39 3 + 1)) := by
  refine AM.of (own := RX10) (ls := [some (vR 39), some (vI a)]) rfl (by decide +kernel) (by exact Nat.le_of_ble_eq_true rfl) rfl (fun hO => ?_)
  refine AW.aload_n (pc' := 1) dX10_turnNew_0 rfl ?_
  refine AW.dup (pc' := 2) dX10_turnNew_1 rfl ?_
  refine AW.getL (pc' := 5) dX10_turnNew_2 ly_39 fX10_9 rfl (fun r2 => ?_)
  refine AW.iload_n (pc' := 6) dX10_turnNew_5 rfl ?_
  refine AW.i2l (pc' := 7) dX10_turnNew_6 (by first | assumption | omega | (constructor <;> omega) | (simp only [Int.toNat_natCast]; omega) | exact b2_in _) ?_
  refine AW.lsub (pc' := 8) dX10_turnNew_7 ?_
  refine AW.putL (pc' := 11) dX10_turnNew_8 ly_39 pX10_9 rfl (by first | assumption | omega | (constructor <;> omega) | (simp only [Int.toNat_natCast]; omega) | exact b2_in _) ?_
  refine AW.aload_n (pc' := 12) dX10_turnNew_11 rfl ?_
  refine AW.dup (pc' := 13) dX10_turnNew_12 rfl ?_
  refine AW.getI (pc' := 16) dX10_turnNew_13 ly_39 fX10_18 rfl (fun r13 => ?_)
  try simp only [hset_app, Nat.reduceEqDiff, false_and, and_false, true_and, and_true, reduceIte] at r13 ⊢
  refine AW.iconst (pc' := 17) dX10_turnNew_16 ?_
  refine AW.isub (pc' := 18) dX10_turnNew_17 ?_
  refine AW.putI (pc' := 21) dX10_turnNew_18 ly_39 pX10_18 rfl (by first | assumption | omega | (constructor <;> omega) | (simp only [Int.toNat_natCast]; omega) | exact b2_in _) ?_
  have f0 : ∀ z : Hp, z = hset (hset h 39 0 (h 39 0 - a)) 39 2 (h 39 2 - 1) → z 39 0 = h 39 0 - a ∧ z 39 1 = h 39 1 ∧ z 39 2 = h 39 2 - 1 ∧ z 39 3 = h 39 3 := fun z e => by subst e; simp [hset_app]
  obtain ⟨h3, gh3⟩ : ∃ z, z = hset (hset h 39 0 (h 39 0 - a)) 39 2 (h 39 2 - 1) := ⟨_, rfl⟩
  rw [← gh3]
  obtain ⟨f1, f2, f3, f4⟩ := f0 h3 gh3
  refine AW.aload_n (pc' := 22) dX10_turnNew_21 rfl ?_
  refine AW.iload_n (pc' := 23) dX10_turnNew_22 rfl ?_
  refine AW.iconst (pc' := 24) dX10_turnNew_23 ?_
  refine AW.invV2v (pc' := 27) dX10_turnNew_24 mlX10_25 mX10_add ly_39 rfl (c_X10_add1 (dep := dep - 1) (by omega) (by omega) (by omega)) ?_
  refine AW.vret dX10_turnNew_27 ?_ ?_
  · rfl
  · rw [f2, f4, gh3]
set_option maxRecDepth 100000 in
set_option maxHeartbeats 4000000 in
theorem lp_X2_furthest0 {K : KT} {X : XT} {dep : Nat} {h : Hp} {a : Int} {g : Prop} {dg : Decidable g} {t : T4} (q0 : 0 ≤ a ∧ a ≤ 12) (H : TI t 200) (hr : ∀ j : Nat, j < a.toNat → 5 ≤ h 38 j ∧ h 38 j ≤ 59998) (hd : 1 ≤ dep) : ∀ (n k : Nat) (h1 : Hp), (k : Int) + n = a → EX [39] h h1 → tal h1 = lp (adO (h 38)) k 0 t → (∀ h2 : Hp, EX [39] h h2 → tal h2 = lp (adO (h 38)) a.toNat 0 t → AW K X RX2 cX2_furthest 5 (some .int) dep 27 [some (vR 35), some (vI (a)), some (vI (b2 g)), none, none] [] h2) → AW K X RX2 cX2_furthest 5 (some .int) dep 2 [some (vR 35), some (vI (a)), some (vI (b2 g)), some (vI ((k : Int))), none] [] h1 := by
  intro n
  induction n with
  | zero =>
    intro k h1 hk e1 t1 kk
    have ek : a.toNat = k := by omega
    refine AW.iload_n (pc' := 3) dX2_furthest_2 rfl ?_
    refine AW.iload_n (pc' := 4) dX2_furthest_3 rfl ?_
    refine AW.icmp_ge (tgt := 27) (pc' := 7) dX2_furthest_4 (by first | assumption | omega | (constructor <;> omega) | (simp only [Int.toNat_natCast]; omega) | exact b2_in _) (by first | assumption | omega | (constructor <;> omega) | (simp only [Int.toNat_natCast]; omega) | exact b2_in _) (fun c4 => ?_) (fun c4 => ?_)
    · exact AW.weak (kk h1 e1 (by rw [ek]; exact t1)) (by (repeat' first | exact LSub.e | refine LSub.n ?_ | refine LSub.c ?_ ?_) <;> first | rfl | exact congrArg Sum.inl (by first | rfl | omega | omega) | exact congrArg (fun z : Int => (vL z : AV)) (by first | rfl | omega | omega))
    · omega
  | succ n ih =>
    intro k h1 hk e1 t1 kk
    have w38 := e1 38 rfl
    have rk := hr k (by omega)
    have ti := adO_in H hr k (by omega)
    rw [← t1] at ti
    obtain ⟨a1, a2, a3, a4, a5, a6, a7⟩ := ti
    simp only [tal] at a1 a2 a3 a4 a5 a6 a7
    have st : lp (adO (h 38)) (k + 1) 0 t = (h1 39 0 + h 38 k, h1 39 1, h1 39 2 + 1, h1 39 3) := by
      have y := t1
      rw [adO_eq] at y ⊢
      rw [smF_last]
      simp only [tal, Prod.mk.injEq] at y
      obtain ⟨y1, y2, y3, y4⟩ := y
      refine Prod.ext ?_ (Prod.ext ?_ (Prod.ext ?_ ?_)) <;> simp only [Nat.zero_add] <;> (try push_cast) <;> omega
    refine AW.iload_n (pc' := 3) dX2_furthest_2 rfl ?_
    refine AW.iload_n (pc' := 4) dX2_furthest_3 rfl ?_
    refine AW.icmp_ge (tgt := 27) (pc' := 7) dX2_furthest_4 (by first | assumption | omega | (constructor <;> omega) | (simp only [Int.toNat_natCast]; omega) | exact b2_in _) (by first | assumption | omega | (constructor <;> omega) | (simp only [Int.toNat_natCast]; omega) | exact b2_in _) (fun c4 => ?_) (fun c4 => ?_)
    · omega
    · refine AW.aload_n (pc' := 8) dX2_furthest_7 rfl ?_
      refine AW.getR (pc' := 11) dX2_furthest_8 ly_35 fX2_12 rfl ?_
      refine AW.aload_n (pc' := 12) dX2_furthest_11 rfl ?_
      refine AW.getR (pc' := 15) dX2_furthest_12 ly_35 fX2_26 rfl ?_
      refine AW.iload_n (pc' := 16) dX2_furthest_15 rfl ?_
      first | refine AW.ialdN (pc' := 17) dX2_furthest_16 ly_38 (by first | assumption | omega | (constructor <;> omega) | (simp only [Int.toNat_natCast]; omega) | exact b2_in _) (by decide) (fun r16 => ?_) | refine AW.iald (pc' := 17) dX2_furthest_16 ly_38 (by first | assumption | omega | (constructor <;> omega) | (simp only [Int.toNat_natCast]; omega) | exact b2_in _) (by first | assumption | omega | (constructor <;> omega) | (simp only [Int.toNat_natCast]; omega) | exact b2_in _) (by decide) (fun r16 => ?_)
      try simp only [w38, Int.toNat_natCast] at r16 ⊢
      refine AW.iconst (pc' := 18) dX2_furthest_17 ?_
      refine AW.invV2v (pc' := 21) dX2_furthest_18 mlX2_96 mX10_add ly_39 rfl (c_X10_add0 (dep := dep - 1) (by omega) (by omega) (by omega)) ?_
      try simp only [Int.toNat_natCast, w38, Int.toNat_natCast]
      refine AW.iinc3 (pc' := 24) dX2_furthest_21 (by decide) rfl ?_
      refine AW.goto (tgt := 2) dX2_furthest_24 ?_
      exact AW.weak (ih (k + 1) _ (by omega) ((e1.st rfl).st rfl) (by rw [st]; simp [tal, hset_app]) kk) (by (repeat' first | exact LSub.e | refine LSub.n ?_ | refine LSub.c ?_ ?_) <;> first | rfl | exact congrArg Sum.inl (by first | rfl | omega | (push_cast; omega)) | exact congrArg (fun z : Int => (vL z : AV)) (by first | rfl | omega | (push_cast; omega)))
set_option maxRecDepth 100000 in
set_option maxHeartbeats 4000000 in
theorem lp_X2_furthest {K : KT} {X : XT} {dep : Nat} {h : Hp} {a : Int} {g : Prop} {dg : Decidable g} {t : T4} (q0 : 0 ≤ a ∧ a ≤ 12) (H : TI t 200) (hr : ∀ j : Nat, j < a.toNat → 5 ≤ h 38 j ∧ h 38 j ≤ 59998) (hd : 2 ≤ dep) : ∀ (n k : Nat) (s : T4 × Int) (h1 : Hp), (k : Int) + n = a → EX [39] h h1 → tal h1 = s.1 → FUI g (h 38) a.toNat t k s.1 → (s.2 = -2000000000 ∨ -12000000 ≤ s.2 ∧ s.2 ≤ 1000) → (∀ h2 : Hp, EX [39] h h2 → AW K X RX2 cX2_furthest 5 (some .int) dep 90 [some (vR 35), some (vI (a)), some (vI (b2 g)), some (vI ((lp (fuS g (h 38) a.toNat) n k s).2)), none] [] h2) → AW K X RX2 cX2_furthest 5 (some .int) dep 38 [some (vR 35), some (vI (a)), some (vI (b2 g)), some (vI (s.2)), some (vI ((k : Int)))] [] h1 := by
  intro n
  induction n with
  | zero =>
    intro k s h1 hk e1 t1 i0 i1 kk
    refine AW.iload (pc' := 40) dX2_furthest_38 rfl ?_
    refine AW.iload_n (pc' := 41) dX2_furthest_40 rfl ?_
    refine AW.icmp_ge (tgt := 90) (pc' := 44) dX2_furthest_41 (by first | assumption | omega | (constructor <;> omega) | (simp only [Int.toNat_natCast]; omega) | exact b2_in _) (by first | assumption | omega | (constructor <;> omega) | (simp only [Int.toNat_natCast]; omega) | exact b2_in _) (fun c41 => ?_) (fun c41 => ?_)
    · exact AW.weak (kk h1 e1) (by (repeat' first | exact LSub.e | refine LSub.n ?_ | refine LSub.c ?_ ?_) <;> first | rfl | exact congrArg Sum.inl (by first | rfl | omega | omega) | exact congrArg (fun z : Int => (vL z : AV)) (by first | rfl | omega | omega))
    · omega
  | succ n ih =>
    intro k s h1 hk e1 t1 i0 i1 kk
    have w38 := e1 38 rfl
    have e9 : (a - 1 - (k : Int)).toNat = a.toNat - 1 - k := by omega
    have rk := hr (ixG g a.toNat k) (ixG_lt (by omega))
    have tq := i0.ti H hr (by omega)
    rw [← t1] at tq
    obtain ⟨a1, a2, a3, a4, a5, a6, a7⟩ := tq
    simp only [tal] at a1 a2 a3 a4 a5 a6 a7
    have f1 := i0.step hr (by omega)
    have t2 := f1.ti H hr (by omega)
    have st : trN (h 38 (ixG g a.toNat k)) s.1 = (h1 39 0 - h 38 (ixG g a.toNat k), h1 39 1 + h 38 (ixG g a.toNat k), h1 39 2 - 1, h1 39 3 + 1) := by
      rw [← t1]; rfl
    have tg1 := tgain_in t2
    have t5 : TI (trN (h 38 (ixG g a.toNat k)) s.1) 1000 := TI.up t2 (by omega)
    refine AW.iload (pc' := 40) dX2_furthest_38 rfl ?_
    refine AW.iload_n (pc' := 41) dX2_furthest_40 rfl ?_
    refine AW.icmp_ge (tgt := 90) (pc' := 44) dX2_furthest_41 (by first | assumption | omega | (constructor <;> omega) | (simp only [Int.toNat_natCast]; omega) | exact b2_in _) (by first | assumption | omega | (constructor <;> omega) | (simp only [Int.toNat_natCast]; omega) | exact b2_in _) (fun c41 => ?_) (fun c41 => ?_)
    · omega
    · refine AW.aload_n (pc' := 45) dX2_furthest_44 rfl ?_
      refine AW.getR (pc' := 48) dX2_furthest_45 ly_35 fX2_12 rfl ?_
      refine AW.aload_n (pc' := 49) dX2_furthest_48 rfl ?_
      refine AW.getR (pc' := 52) dX2_furthest_49 ly_35 fX2_26 rfl ?_
      refine AW.iload_n (pc' := 53) dX2_furthest_52 rfl ?_
      refine AW.ifb_eq (tgt := 61) (pc' := 56) dX2_furthest_53 (fun c53 => ?_) (fun c53 => ?_)
      · have gx : ixG g a.toNat k = a.toNat - 1 - k := by unfold ixG; rw [if_neg (by assumption)]
        rw [gx] at rk st f1 tg1 t5
        refine AW.iload_n (pc' := 62) dX2_furthest_61 rfl ?_
        refine AW.iconst (pc' := 63) dX2_furthest_62 ?_
        refine AW.isub (pc' := 64) dX2_furthest_63 ?_
        refine AW.iload (pc' := 66) dX2_furthest_64 rfl ?_
        refine AW.isub (pc' := 67) dX2_furthest_66 ?_
        first | refine AW.ialdN (pc' := 68) dX2_furthest_67 ly_38 (by first | assumption | omega | (constructor <;> omega) | (simp only [Int.toNat_natCast]; omega) | exact b2_in _) (by decide) (fun r67 => ?_) | refine AW.iald (pc' := 68) dX2_furthest_67 ly_38 (by first | assumption | omega | (constructor <;> omega) | (simp only [Int.toNat_natCast]; omega) | exact b2_in _) (by first | assumption | omega | (constructor <;> omega) | (simp only [Int.toNat_natCast]; omega) | exact b2_in _) (by decide) (fun r67 => ?_)
        try simp only [w38, Int.toNat_natCast, e9] at r67 ⊢
        refine AW.invV1v (pc' := 71) dX2_furthest_68 mlX2_136 mX10_turnNew ly_39 rfl (c_X10_turnNew (dep := dep - 1) (by omega) (by omega) (by omega) (by omega)) ?_
        try simp only [Int.toNat_natCast, w38, Int.toNat_natCast, e9]
        obtain ⟨h3, gh3⟩ : ∃ z, z = hset (hset (hset (hset h1 39 0 (h1 39 0 - h 38 (a.toNat - 1 - k))) 39 2 (h1 39 2 - 1)) 39 1 (h1 39 1 + h 38 (a.toNat - 1 - k))) 39 3 (h1 39 3 + 1) := ⟨_, rfl⟩
        rw [← gh3]
        have e3 : EX [39] h h3 := by rw [gh3]; exact (((e1.st rfl).st rfl).st rfl).st rfl
        have t3 : tal h3 = trN (h 38 (a.toNat - 1 - k)) s.1 := by rw [gh3, st]; simp [tal, hset_app]
        have t4 : TI (tal h3) 1000 := by rw [t3]; exact t5
        refine AW.iload_n (pc' := 72) dX2_furthest_71 rfl ?_
        refine AW.aload_n (pc' := 73) dX2_furthest_72 rfl ?_
        refine AW.getR (pc' := 76) dX2_furthest_73 ly_35 fX2_12 rfl ?_
        refine AW.invV0 (pc' := 79) dX2_furthest_76 mlX2_93 mX10_gained ly_39 rfl (c_X10_gained (dep := dep - 1) (by omega) t4) ?_
        try simp only [Int.toNat_natCast, w38, Int.toNat_natCast, e9]
        rw [t3]
        refine AW.iload_n (pc' := 80) dX2_furthest_79 rfl ?_
        refine AW.invS3 (pc' := 83) dX2_furthest_80 mlX2_113 mX2_further (c_X2_further (dep := dep - 1) (by first | assumption | omega | (constructor <;> omega) | (simp only [Int.toNat_natCast]; omega) | exact b2_in _) (by first | assumption | omega | (constructor <;> omega) | (simp only [Int.toNat_natCast]; omega) | exact b2_in _) (by first | assumption | omega | (constructor <;> omega) | (simp only [Int.toNat_natCast]; omega) | exact b2_in _)) ?_
        try simp only [Int.toNat_natCast, w38, Int.toNat_natCast, e9]
        refine AW.istore3n (pc' := 84) dX2_furthest_83 (by decide) rfl ?_
        refine AW.iinc4 (pc' := 87) dX2_furthest_84 (by decide) rfl ?_
        refine AW.goto (tgt := 38) dX2_furthest_87 ?_
        exact AW.weak (ih (k + 1) (fuS g (h 38) a.toNat k s) _ (by omega) e3 (by rw [t3]; unfold fuS; rw [gx]) (by unfold fuS; rw [gx]; exact f1) (by unfold fuS fur; rw [gx]; simp only; (repeat' split) <;> omega) kk) (by (repeat' first | exact LSub.e | refine LSub.n ?_ | refine LSub.c ?_ ?_) <;> first | rfl | exact congrArg Sum.inl (by first | rfl | omega | first | (push_cast; omega) | (unfold fuS; rw [gx])) | exact congrArg (fun z : Int => (vL z : AV)) (by first | rfl | omega | first | (push_cast; omega) | (unfold fuS; rw [gx])))
      · have gx : ixG g a.toNat k = k := by unfold ixG; rw [if_pos (by assumption)]
        rw [gx] at rk st f1 tg1 t5
        refine AW.iload (pc' := 58) dX2_furthest_56 rfl ?_
        refine AW.goto (tgt := 67) dX2_furthest_58 ?_
        first | refine AW.ialdN (pc' := 68) dX2_furthest_67 ly_38 (by first | assumption | omega | (constructor <;> omega) | (simp only [Int.toNat_natCast]; omega) | exact b2_in _) (by decide) (fun r67 => ?_) | refine AW.iald (pc' := 68) dX2_furthest_67 ly_38 (by first | assumption | omega | (constructor <;> omega) | (simp only [Int.toNat_natCast]; omega) | exact b2_in _) (by first | assumption | omega | (constructor <;> omega) | (simp only [Int.toNat_natCast]; omega) | exact b2_in _) (by decide) (fun r67 => ?_)
        try simp only [w38, Int.toNat_natCast, e9] at r67 ⊢
        refine AW.invV1v (pc' := 71) dX2_furthest_68 mlX2_136 mX10_turnNew ly_39 rfl (c_X10_turnNew (dep := dep - 1) (by omega) (by omega) (by omega) (by omega)) ?_
        try simp only [Int.toNat_natCast, w38, Int.toNat_natCast, e9]
        obtain ⟨h3, gh3⟩ : ∃ z, z = hset (hset (hset (hset h1 39 0 (h1 39 0 - h 38 k)) 39 2 (h1 39 2 - 1)) 39 1 (h1 39 1 + h 38 k)) 39 3 (h1 39 3 + 1) := ⟨_, rfl⟩
        rw [← gh3]
        have e3 : EX [39] h h3 := by rw [gh3]; exact (((e1.st rfl).st rfl).st rfl).st rfl
        have t3 : tal h3 = trN (h 38 k) s.1 := by rw [gh3, st]; simp [tal, hset_app]
        have t4 : TI (tal h3) 1000 := by rw [t3]; exact t5
        refine AW.iload_n (pc' := 72) dX2_furthest_71 rfl ?_
        refine AW.aload_n (pc' := 73) dX2_furthest_72 rfl ?_
        refine AW.getR (pc' := 76) dX2_furthest_73 ly_35 fX2_12 rfl ?_
        refine AW.invV0 (pc' := 79) dX2_furthest_76 mlX2_93 mX10_gained ly_39 rfl (c_X10_gained (dep := dep - 1) (by omega) t4) ?_
        try simp only [Int.toNat_natCast, w38, Int.toNat_natCast, e9]
        rw [t3]
        refine AW.iload_n (pc' := 80) dX2_furthest_79 rfl ?_
        refine AW.invS3 (pc' := 83) dX2_furthest_80 mlX2_113 mX2_further (c_X2_further (dep := dep - 1) (by first | assumption | omega | (constructor <;> omega) | (simp only [Int.toNat_natCast]; omega) | exact b2_in _) (by first | assumption | omega | (constructor <;> omega) | (simp only [Int.toNat_natCast]; omega) | exact b2_in _) (by first | assumption | omega | (constructor <;> omega) | (simp only [Int.toNat_natCast]; omega) | exact b2_in _)) ?_
        try simp only [Int.toNat_natCast, w38, Int.toNat_natCast, e9]
        refine AW.istore3n (pc' := 84) dX2_furthest_83 (by decide) rfl ?_
        refine AW.iinc4 (pc' := 87) dX2_furthest_84 (by decide) rfl ?_
        refine AW.goto (tgt := 38) dX2_furthest_87 ?_
        exact AW.weak (ih (k + 1) (fuS g (h 38) a.toNat k s) _ (by omega) e3 (by rw [t3]; unfold fuS; rw [gx]) (by unfold fuS; rw [gx]; exact f1) (by unfold fuS fur; rw [gx]; simp only; (repeat' split) <;> omega) kk) (by (repeat' first | exact LSub.e | refine LSub.n ?_ | refine LSub.c ?_ ?_) <;> first | rfl | exact congrArg Sum.inl (by first | rfl | omega | first | (push_cast; omega) | (unfold fuS; rw [gx])) | exact congrArg (fun z : Int => (vL z : AV)) (by first | rfl | omega | first | (push_cast; omega) | (unfold fuS; rw [gx])))
set_option maxRecDepth 100000 in
set_option maxHeartbeats 4000000 in
theorem c_X2_furthest {K : KT} {dep : Nat} {h : Hp} {a : Int} {g : Prop} {dg : Decidable g} (hd : 2 ≤ dep) (q0 : 0 ≤ a ∧ a ≤ 12) (H : TI (tal h) 200) (hr : ∀ j : Nat, j < a.toNat → 5 ≤ h 38 j ∧ h 38 j ≤ 59998) : AMp K yX2_furthest cX2_furthest 5 (some .int) dep [vR 35, vI a, vI (b2 g)] h (some (vI (fuF g (tal h) a.toNat (h 38)))) (fun x => EX [39] h x) := by
  refine AM.of (own := RX2) (ls := [some (vR 35), some (vI a), some (vI (b2 g)), none, none]) rfl (by decide +kernel) (by exact Nat.le_of_ble_eq_true rfl) rfl (fun hO => ?_)
  refine AW.iconst (pc' := 1) dX2_furthest_0 ?_
  refine AW.istore3n (pc' := 2) dX2_furthest_1 (by decide) rfl ?_
  refine AW.weak (lp_X2_furthest0 (g := g) q0 H hr (by omega) a.toNat 0 h (by omega) EX.rf rfl (fun h2 e2 t2 => ?_)) (by (repeat' first | exact LSub.e | refine LSub.n ?_ | refine LSub.c ?_ ?_) <;> first | rfl | exact congrArg Sum.inl (by first | rfl | omega | omega) | exact congrArg (fun z : Int => (vL z : AV)) (by first | rfl | omega | omega))
  have ti := adO_in H hr a.toNat (Nat.le_refl _)
  have t3 : TI (tal h2) 1000 := by rw [t2]; exact TI.up ti (by omega)
  refine AW.aload_n (pc' := 28) dX2_furthest_27 rfl ?_
  refine AW.getR (pc' := 31) dX2_furthest_28 ly_35 fX2_12 rfl ?_
  refine AW.invV0 (pc' := 34) dX2_furthest_31 mlX2_93 mX10_gained ly_39 rfl (c_X10_gained (dep := dep - 1) (by first | assumption | omega | (constructor <;> omega) | (simp only [Int.toNat_natCast]; omega) | exact b2_in _) (by first | assumption | omega | (constructor <;> omega) | (simp only [Int.toNat_natCast]; omega) | exact b2_in _)) ?_
  refine AW.istore3n (pc' := 35) dX2_furthest_34 (by decide) rfl ?_
  refine AW.iconst (pc' := 36) dX2_furthest_35 ?_
  refine AW.istore4 (pc' := 38) dX2_furthest_36 (by decide) rfl ?_
  rw [t2]
  refine AW.weak (lp_X2_furthest (g := g) q0 H hr hd a.toNat 0 (lp (adO (h 38)) a.toNat 0 (tal h), tgain (lp (adO (h 38)) a.toNat 0 (tal h))) h2 (by omega) e2 t2 (FUI.zero H) (tgain_in ti) (fun h3 e3 => ?_)) (by (repeat' first | exact LSub.e | refine LSub.n ?_ | refine LSub.c ?_ ?_) <;> first | rfl | exact congrArg Sum.inl (by first | rfl | omega | omega) | exact congrArg (fun z : Int => (vL z : AV)) (by first | rfl | omega | omega))
  refine AW.iload_n (pc' := 91) dX2_furthest_90 rfl ?_
  refine AW.iret dX2_furthest_91 ?_ ?_
  · rfl
  · exact e3
