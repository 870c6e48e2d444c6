/-! folds over equal rows: both -/
theorem best_rel {co om : Nat → Int} {c : Int} : ∀ (n k : Nat) (a b : Int), (a = -2 ∧ b = -1 ∨ a = b ∧ 0 ≤ a) → (lp (bestS (-2) co om c) n k a = -2 ∧ lp (bestS (-1) co om c) n k b = -1 ∨ lp (bestS (-2) co om c) n k a = lp (bestS (-1) co om c) n k b ∧ 0 ≤ lp (bestS (-2) co om c) n k a)
  | 0, k, a, b, h => h
  | n + 1, k, a, b, h => by
    show lp (bestS (-2) co om c) n (k + 1) (bestS (-2) co om c k a) = -2 ∧ lp (bestS (-1) co om c) n (k + 1) (bestS (-1) co om c k b) = -1 ∨ _
    refine best_rel n (k + 1) _ _ ?_
    unfold bestS
    by_cases z : co k = c
    · rcases h with ⟨h1, h2⟩ | ⟨h1, h2⟩
      · rw [if_pos ⟨z, Or.inl h1⟩, if_pos ⟨z, Or.inl h2⟩]
        exact Or.inr ⟨rfl, by omega⟩
      · subst h1
        by_cases y : om k < om a.toNat
        · rw [if_pos ⟨z, Or.inr y⟩, if_pos ⟨z, Or.inr y⟩]
          exact Or.inr ⟨rfl, by omega⟩
        · rw [if_neg (fun w => w.2.elim (fun u => by omega) y), if_neg (fun w => w.2.elim (fun u => by omega) y)]
          exact Or.inr ⟨rfl, h2⟩
    · rw [if_neg (fun w => z w.1), if_neg (fun w => z w.1)]
      exact h
theorem best_eq (n : Int) (co om : Nat → Int) (c w : Int) (y : Int) (ye : Nat → Int) : (if bestF (-1) n co om c < 0 then (-2 : Int) else if w = 0 then bestF (-1) n co om c else y - ye (bestF (-1) n co om c).toNat) = if bestF (-2) n co om c < 0 then -2 else if w = 0 then bestF (-2) n co om c else y - ye (bestF (-2) n co om c).toNat := by
  have q := best_rel (co := co) (om := om) (c := c) n.toNat 0 (-2) (-1) (Or.inl ⟨rfl, rfl⟩)
  unfold bestF
  rcases q with ⟨h1, h2⟩ | ⟨h1, h2⟩
  · rw [h1, h2, if_pos (by decide), if_pos (by decide)]
  · rw [h1]
theorem fur_ls (a b : Int) : fur False a b = lsF a b := by
  unfold fur lsF
  rw [if_neg (fun z => z : ¬ False)]
  (repeat' split) <;> omega
theorem fur_gt (a b : Int) : fur True a b = gtF a b := by
  unfold fur gtF
  rw [if_pos trivial]
  (repeat' split) <;> omega
theorem lsF_assoc (a b c : Int) : lsF (lsF a b) c = lsF a (lsF b c) := by
  have m : ∀ x y : Int, x ≠ -2000000000 → y ≠ -2000000000 → lsF x y = if x < y then x else y := fun x y hx hy => by unfold lsF; rw [if_neg hx, if_neg hy]
  have e1 : ∀ x : Int, lsF (-2000000000) x = x := fun x => by unfold lsF; rw [if_pos rfl]
  have e2 : ∀ x : Int, lsF x (-2000000000) = x := fun x => by
    unfold lsF
    by_cases z : x = -2000000000
    · rw [if_pos z, z]
    · rw [if_neg z, if_pos rfl]
  by_cases ha : a = -2000000000
  · rw [ha, e1, e1]
  · by_cases hb : b = -2000000000
    · rw [hb, e2, e1]
    · by_cases hc : c = -2000000000
      · rw [hc, e2, e2]
      · rw [m a b ha hb, m b c hb hc]
        by_cases h1 : a < b
        · rw [if_pos h1, m a c ha hc]
          by_cases h2 : b < c
          · rw [if_pos h2, m a b ha hb, if_pos h1, if_pos (by omega)]
          · rw [if_neg h2, m a c ha hc]
        · rw [if_neg h1, m b c hb hc]
          by_cases h2 : b < c
          · rw [if_pos h2, m a b ha hb, if_neg h1]
          · rw [if_neg h2, m a c ha hc]
            split <;> omega
theorem gtF_assoc (a b c : Int) : gtF (gtF a b) c = gtF a (gtF b c) := by
  have m : ∀ x y : Int, x ≠ -2000000000 → y ≠ -2000000000 → gtF x y = if y < x then x else y := fun x y hx hy => by unfold gtF; rw [if_neg hx, if_neg hy]
  have e1 : ∀ x : Int, gtF (-2000000000) x = x := fun x => by unfold gtF; rw [if_pos rfl]
  have e2 : ∀ x : Int, gtF x (-2000000000) = x := fun x => by
    unfold gtF
    by_cases z : x = -2000000000
    · rw [if_pos z, z]
    · rw [if_neg z, if_pos rfl]
  by_cases ha : a = -2000000000
  · rw [ha, e1, e1]
  · by_cases hb : b = -2000000000
    · rw [hb, e2, e1]
    · by_cases hc : c = -2000000000
      · rw [hc, e2, e2]
      · rw [m a b ha hb, m b c hb hc]
        by_cases h1 : b < a
        · rw [if_pos h1, m a c ha hc]
          by_cases h2 : c < b
          · rw [if_pos h2, m a b ha hb, if_pos h1, if_pos (by omega)]
          · rw [if_neg h2, m a c ha hc]
        · rw [if_neg h1, m b c hb hc]
          by_cases h2 : c < b
          · rw [if_pos h2, m a b ha hb, if_neg h1]
          · rw [if_neg h2, m a c ha hc]
            split <;> omega
theorem less0 (b : Int) : lessV 0 b = bkM b := by
  unfold lessV bkM
  by_cases z : b = -2000000000
  · rw [if_pos (Or.inr z), if_pos z, z]
  · rw [if_neg (fun y => y.elim (fun w => absurd w (by decide)) z), if_neg z]
    omega
theorem bd_ls (s r b : Int) : bdF False s r b = lsF s (lsF r (bkM b)) := by
  unfold bdF
  rw [fur_ls, fur_ls, lsF_assoc, less0]
theorem bd_gt (s r b : Int) : bdF True s r b = gtF s (gtF r (bkM b)) := by
  unfold bdF
  rw [fur_gt, fur_gt, gtF_assoc, less0]
section RELB
variable {g h : Hp}
theorem RlB.im (R : RlB g h) : IMa h := by
  obtain ⟨⟨a1, a2, a3, a4, a5⟩, ⟨b1, b2', b3, b4⟩, ⟨c1, c2⟩, ⟨d1, d2, d3, d4, d5, d6⟩, i, _⟩ := R
  unfold IMa
  rw [← a1, ← a2, ← a3, ← a4, ← a5, ← b1, ← b2', ← b3, ← b4, ← c1, ← c2, ← d1, ← d2, ← d3, ← d4, ← d5, ← d6]
  exact i
theorem RlB.lv (R : RlB g h) : lvX g = lvM h := by
  obtain ⟨-, -, ⟨c1, c2⟩, ⟨d1, d2, d3, d4, d5, d6⟩, -⟩ := R
  show lvl (g 16) (g 11) (g 14) = lvl (h 69) (h 65) (h 67)
  rw [c2, d3, d5]
theorem RlB.pr (R : RlB g h) (q : Nat) : prX g q = prM h (q : Int) := by
  have l := R.lv
  obtain ⟨-, ⟨b1, b2', b3, b4⟩, -, ⟨d1, d2, d3, d4, d5, d6⟩, i, k1, k2⟩ := R
  have e := pairs_eq (sh := g 17) (gv := g 8) (lv := lvX g) (by have := i.2.2.2.1; omega) k1 q
  show lp (pxS (g 13) (g 17) (g 8) (lvX g) (g 18)) (g 12 10 - 1).toNat 0 (fun _ => (0, 0)) q = pairF (h 57 16) (nextF (h 57 16) (h 66) (h 68)) (h 70) (h 63) (lvM h) (q : Int)
  rw [e, l, d1, d2, d4, d6, b3]
theorem RlB.sin (R : RlB g h) : sinX g = sinM h := by
  show lessV (meanP (prX g 0)) (meanP (prX g 2)) = lessV (meanP (prM h 0)) (meanP (prM h 2))
  rw [R.pr 0, R.pr 2]
  rfl
theorem RlB.lvin (R : RlB g h) : ∀ r : Nat, (r : Int) < h 57 16 → 5 ≤ lvM h r ∧ lvM h r ≤ 59998 := fun r hr => by
  have i := R.im
  have q := lvl_in i.2.2.2 i.2.2.1 hr
  exact ⟨q.2.2.1, q.2.2.2⟩
theorem RlB.ir (R : RlB g h) : irF g = bsM h := by
  have l := R.lv
  have lv := R.lvin
  have im := R.im
  obtain ⟨-, ⟨b1, b2', b3, b4⟩, ⟨c1, c2⟩, ⟨d1, d2, d3, d4, d5, d6⟩, i, k1, k2⟩ := R
  have n0 := im.2.2.2.1
  have nc := im.2.2.1.1
  show (lp (irS (g 12 10) (g 14) (g 15) (g 19) (g 17) (g 8) (lvX g)) (g 12 10).toNat 0 ((0, 0, 0, 0), (0, 0))).2 = lp (bcS (raM h)) (h 57 15).toNat 0 (0, 0)
  rw [irF_eq (C := (h 57 15).toNat) (by rw [d1]; omega) k2 (fun r hr => by
    have q := im.2.2.2.2.2 r (by rw [← d1]; exact hr)
    rw [d3, d4]
    omega) (fun r hr => by rw [l]; exact lv r (by rw [← d1]; exact hr)), bsM_eq, l, d1, d3, d4, d6, b3]
theorem RlB.rg (R : RlB g h) (a : Int) : rgX g a = rgM h a := by
  have l := R.lv
  obtain ⟨-, ⟨b1, b2', b3, b4⟩, ⟨c1, c2⟩, ⟨d1, d2, d3, d4, d5, d6⟩, i, k1, k2⟩ := R
  show rgF (g 12 10) (g 13) a (g 17) (g 8) (lvX g) = rgF (h 57 16) (h 66) a (h 70) (h 63) (lvM h)
  rw [l, d1, d2, d6, b3]
theorem RlB.gf (R : RlB g h) : gfX g = gfM h := funext fun k => congrArg tgain (R.rg k)
theorem RlB.sp (R : RlB g h) : spF g = snF h := by
  have l := R.lv
  have p2 := R.pr 2
  obtain ⟨-, ⟨b1, b2', b3, b4⟩, ⟨c1, c2⟩, ⟨d1, d2, d3, d4, d5, d6⟩, i, k1, k2⟩ := R
  have e := spread_eq (sh := g 17) (gv := g 8) (lv := lvX g) (by have := i.2.2.2.1; omega) k1 (meanP (prX g 2))
  unfold spF snF
  have e2 : lp (spX g (meanP (prX g 2))) (g 12 10 - 1).toNat 0 0 = lp (nsM h (meanP (prM h 2))) (h 57 16).toNat 0 0 := by
    have t : lp (spX g (meanP (prX g 2))) (g 12 10 - 1).toNat 0 0 = lp (spG (g 13) (g 17) (g 8) (lvX g) (g 18) (meanP (prX g 2))) (g 12 10 - 1).toNat 0 0 := rfl
    rw [t, e, p2]
    show lp (nsS (nextF (g 12 10) (g 13) (g 15)) (g 17) (g 8) (lvX g) (meanP (prM h 2))) (g 12 10).toNat 0 0 = lp (nsS (nextF (h 57 16) (h 66) (h 68)) (h 70) (h 63) (lvM h) (meanP (prM h 2))) (h 57 16).toNat 0 0
    rw [l, d1, d2, d4, d6, b3]
  rw [e2, p2]
  rfl
theorem RlB.un (R : RlB g h) {c y b : Int} (hb : b = 0 ∨ b = 1) (row : Nat → Int) : cbX g (b = 1) c y (g 12 10).toNat 0 (0, 0, 0, 0) 0 row = unM h c y b := by
  have l := R.lv
  have lv := R.lvin
  obtain ⟨-, ⟨b1, b2', b3, b4⟩, ⟨c1, c2⟩, ⟨d1, d2, d3, d4, d5, d6⟩, i, k1, k2⟩ := R
  show cbQ (b = 1) (g 14) (g 15) c y (g 17) (g 8) (lvX g) (g 12 10).toNat 0 (0, 0, 0, 0) 0 row = _
  rw [l, d1, d3, d4, d6, b3]
  exact unseen_eq hb (fun r hr => lv r (by omega))
theorem RlB.wh (R : RlB g h) {a : Int} (h0 : 0 ≤ a) (h1 : a < g 12 10) : wiF (g 13) (g 17) (g 18) a (g 12 10).toNat 0 0 = whF (h 57 16) (h 66) (h 70) (h 68) a := by
  obtain ⟨-, -, -, ⟨d1, d2, d3, d4, d5, d6⟩, i, k1, k2⟩ := R
  rw [which_eq (by omega) k1 h0 h1, d1, d2, d4, d6]
theorem RlB.rcs (R : RlB g h) (a c i : Int) : reF (g 16) (luF g a c).2 i (luF g a c).1 0 30000 0 = rcF h a c i 121 0 (-1) := by
  have im := R.im
  obtain ⟨-, ⟨b1, b2', b3, b4⟩, -, ⟨d1, d2, d3, d4, d5, d6⟩, ix, k1, k2⟩ := R
  rw [d1, d3, d4] at k2
  have q := records_eq (row0 := g 20) (c := a) (lim := c) (i := i) k2 im.2.2.2.1 im.2.2.2.2.1 (fun r hr => by have := im.2.2.2.2.2 r hr; omega)
  rw [← q, ← d5]
  show reF (g 16) (lp (luS (g 14) (g 17) (g 7) (g 15) (g 16) (g 19) a c) (g 12 10).toNat 0 (0, g 20)).2 i (lp (luS (g 14) (g 17) (g 7) (g 15) (g 16) (g 19) a c) (g 12 10).toNat 0 (0, g 20)).1 0 30000 0 = _
  rw [d1, d3, d4, d6, b2']
end RELB
