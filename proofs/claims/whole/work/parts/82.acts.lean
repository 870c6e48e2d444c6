/-! one call of both: act, keep, row, put, shift -/
theorem bg_rel : ∀ (L : List Int) (g h : Hp), g 43 3 = h 57 53 → 0 ≤ g 43 3 → g 45 = h 85 → bgX L g 43 3 = bgM L h 57 53 ∧ 0 ≤ bgX L g 43 3 ∧ bgX L g 45 = bgM L h 85 ∧ bgX L g 43 2 = g 43 2 ∧ bgM L h 57 52 = h 57 52 ∧ tX [5] g (bgX L g) ∧ tM [5] h (bgM L h)
  | [], g, h, e1, e2, e3 => ⟨e1, e2, e3, rfl, rfl, tX.rf, tM.rf⟩
  | v :: L, g, h, e1, e2, e3 => by
    have p3 : psX g v 43 3 = g 43 3 + 1 := by unfold psX; exact hset_same _ _ _ _
    have m3 : puM h v 57 53 = h 57 53 + 1 := by unfold puM; exact hset_same _ _ _ _
    have p2 : psX g v 43 2 = g 43 2 := by
      unfold psX
      rw [hset_slot (by decide)]
      split
      · rw [hset_other 43 (by decide)]
      · rfl
    have m2 : puM h v 57 52 = h 57 52 := by
      unfold puM
      rw [hset_slot (by decide)]
      split
      · rw [hset_other 57 (by decide)]
      · rfl
    have p45 : psX g v 45 = puM h v 85 := by
      unfold psX puM
      rw [hset_other 45 (by decide), hset_other 85 (by decide), e1]
      by_cases z : h 57 53 < 24
      · rw [if_pos z, if_pos z, hset_row, hset_row, e3]
      · rw [if_neg z, if_neg z, e3]
    have q := bg_rel L (psX g v) (puM h v) (by rw [p3, m3, e1]) (by rw [p3]; omega) p45
    have tx : tX [5] g (psX g v) := by
      unfold psX
      split
      · exact (tX.rf.st (by decide) rfl).st (by decide) rfl
      · exact tX.rf.st (by decide) rfl
    have tm : tM [5] h (puM h v) := by
      unfold puM
      split
      · exact (tM.rf.st (by decide) rfl).st (by decide) rfl
      · exact tM.rf.st (by decide) rfl
    obtain ⟨a1, a2, a3, a4, a5, a6, a7⟩ := q
    exact ⟨a1, a2, a3, a4.trans p2, a5.trans m2, tx.tr a6, tm.tr a7⟩
theorem c5_56 : ∀ t, [5, 6].contains t = false → [5].contains t = false := fun t h => by
  simp only [List.contains_cons, Bool.or_eq_false_iff] at h ⊢
  exact ⟨h.1, rfl⟩
theorem act_none {k b : Int} (hb : ¬ (0 ≤ b ∧ b ≤ 3)) (n x : Int) : acF k b n x = 0 ∧ acL k b = [] := by
  unfold acF acL
  rw [if_neg (by omega), if_neg (by omega), if_neg (by omega), if_neg (by omega), if_neg (by omega), if_neg (by omega), if_neg (by omega), if_neg (by omega)]
  exact ⟨rfl, rfl⟩
theorem sim_act {K : KT} {d : Nat} {h : Hp} {a b c : Int} (hd : 130 ≤ d) (H : HOK h) (R : RLL h h) (q1 : inI a) (q2 : inI b) (q3 : inI c) : SIMC K yX11_act cX11_act 4 yX12_act cX12_act 5 (some .int) vI d [vR 0, vI a, vI b, vI c] [vR 57, vI a, vI b, vI c] h := by
  obtain ⟨f1, f2', f3, f4, f5, f6, f7, f8⟩ := R.f
  have m1 := c_X11_act (K := K) (dep := d) (h := h) (by omega) f3 f5 q1 q2 q3
  -- what both come to
  obtain ⟨v, L, hv, hL⟩ : ∃ (v : Int) (L : List Int), (if ((0 ≤ a ∧ a < h 43 2) ∧ 0 ≤ b ∧ b ≤ 3) then (beF a (h 44 a.toNat) 30 (h 44 a.toNat) b c).1 else 0) = v ∧ (v = (if (0 ≤ a ∧ a ≤ h 43 2 - 1) then acF (h 44 a.toNat) b a c else 0) ∧ (if ((0 ≤ a ∧ a < h 43 2) ∧ 0 ≤ b ∧ b ≤ 3) then bgX (beF a (h 44 a.toNat) 30 (h 44 a.toNat) b c).2 (hset h 43 3 0) else hset h 43 3 0) = bgX L (hset h 43 3 0) ∧ ∀ y : Hp, (if (0 ≤ a ∧ a ≤ h 43 2 - 1) then bgM (acL (h 44 a.toNat) b) (hset y 57 53 0) else hset y 57 53 0) = bgM L (hset y 57 53 0)) := by
    by_cases z : 0 ≤ a ∧ a < h 43 2
    · have kk := f5 a.toNat (by omega)
      by_cases y : 0 ≤ b ∧ b ≤ 3
      · have q := act_all a c (h 44 a.toNat) b kk.1 kk.2 y.1 y.2
        refine ⟨_, acL (h 44 a.toNat) b, rfl, ?_, ?_, fun w => ?_⟩
        · rw [if_pos ⟨z, y⟩, if_pos (by omega), q]
        · rw [if_pos ⟨z, y⟩, q]
        · rw [if_pos (by omega)]
      · have q := act_none (k := h 44 a.toNat) y a c
        refine ⟨_, [], rfl, ?_, ?_, fun w => ?_⟩
        · rw [if_neg (fun u => y u.2), if_pos (by omega), q.1]
        · rw [if_neg (fun u => y u.2)]
          rfl
        · rw [if_pos (by omega), q.2]
    · refine ⟨_, [], rfl, ?_, ?_, fun w => ?_⟩
      · rw [if_neg (fun u => z u.1), if_neg (by omega)]
      · rw [if_neg (fun u => z u.1)]
        rfl
      · rw [if_neg (by omega)]
        rfl
  rw [hv, hL.2.1] at m1
  have t0 : tX [5] h (hset h 43 3 0) := tX.rf.st (by decide) rfl
  have z3 : hset h 43 3 0 43 3 = 0 := hset_same _ _ _ _
  refine SIMC.mk [5, 6] R m1 (fun x f => by rw [← f]; exact (t0.tr (bg_rel L _ (hset h 57 53 0) (by rw [z3]; exact (hset_same _ _ _ _).symm) (by rw [z3]; decide) (by rw [hset_other 45 (by decide), hset_other 85 (by decide)]; exact f8)).2.2.2.2.2.1).up c5_56) (fun x f hx r => ?_)
  obtain ⟨u1, u2, u3, u4, u5, u6, u7, u8⟩ := r.f
  have m2 := c_X12_act (K := K) (dep := d) (h := x) (by omega) (by omega) (by rw [← u1, ← u4]; exact u5) q1 q2 q3
  rw [← u1, ← u4, ← hL.1, hL.2.2] at m2
  refine ⟨_, m2, fun x2 e2 => ?_⟩
  have B := bg_rel L (hset h 43 3 0) (hset x 57 53 0) (by rw [z3]; exact (hset_same _ _ _ _).symm) (by rw [z3]; decide) (by rw [hset_other 45 (by decide), hset_other 85 (by decide)]; exact u8)
  rw [f, e2] at B
  obtain ⟨b1, b2', b3, b4, b5, b6, b7⟩ := B
  have tm : tM [5] x x2 := (tM.rf.st (by decide) rfl).tr b7
  have tx : tX [5] h x := t0.tr b6
  have x44 : x 44 = h 44 := by rw [← f, bgX_other (by decide) (by decide), hset_other 44 (by decide)]
  have y84 : x2 84 = x 84 := by rw [← e2, bgM_other (by decide) (by decide), hset_other 84 (by decide)]
  have x43 : x 43 2 = h 43 2 := by rw [b4, hset_slot (by decide)]
  have y52 : x2 57 52 = x 57 52 := by rw [b5, hset_slot (by decide)]
  refine ⟨tm.up c5_56, RLp.fg ?_ ?_⟩
  · unfold RlF
    rw [x43, x44, y84, y52]
    exact ⟨u1, u2, u3, u4, u5, b1, b2', b3⟩
  · rw [x43]
    exact r.g.fr (tx.s rfl) (tm.s rfl)
theorem c6_69 : ∀ t, [6, 9].contains t = false → [6].contains t = false := fun t h => by
  simp only [List.contains_cons, Bool.or_eq_false_iff] at h ⊢
  exact ⟨h.1, rfl⟩
theorem upR_same (row : Nat → Int) (n : Nat) (v : Int) : upR row n v n = v := by unfold upR; rw [if_pos rfl]
theorem upR_ne {row : Nat → Int} {n j : Nat} {v : Int} (h : j ≠ n) : upR row n v j = row j := by unfold upR; rw [if_neg h]
theorem sim_keep {K : KT} {d : Nat} {h : Hp} {a b : Int} (hd : 130 ≤ d) (H : HOK h) (R : RLL h h) (q1 : inI a) (q2 : inI b) : SIMC K yX11_keep cX11_keep 3 yX12_keep cX12_keep 3 (some .int) vI d [vR 0, vI a, vI b] [vR 57, vI a, vI b] h := by
  obtain ⟨f1, f2', f3, f4, f5, f6, f7, f8⟩ := R.f
  have m1 := c_X11_keep (K := K) (dep := d) (h := h) (by omega) f2' q1 q2
  by_cases z : ¬ (0 ≤ a ∧ a < 6) ∨ b < -1 ∨ h 43 2 ≤ b
  · rw [if_pos z, if_pos z] at m1
    have m2 := c_X12_keep (K := K) (dep := d) (h := h) (by omega) (by omega) q1 q2
    rw [← f1, if_pos z, if_pos z] at m2
    exact SIMC.id R m1 m2
  · rw [if_neg z, if_neg z] at m1
    have t1 : ∀ x, (hset (hset (hset h 47 a.toNat (if b = -1 then 6 else 5)) 48 a.toNat b) 49 a.toNat 0) = x → tX [6] h x := fun x f => by
      rw [← f]
      exact ((tX.rf.st (by decide) rfl).st (by decide) rfl).st (by decide) rfl
    refine SIMC.mk [6, 9] R m1 (fun x f => (t1 x f).up c6_69) (fun x f hx r => ?_)
    have m2 := c_X12_keep (K := K) (dep := d) (h := x) (by omega) (by have := r.f.1; omega) q1 q2
    rw [← r.f.1, if_neg z, if_neg z] at m2
    refine ⟨_, m2, fun x2 e2 => ?_⟩
    obtain ⟨g1, g2, g3, g4, g5⟩ := r.g
    have x47 : x 47 = upR (h 47) a.toNat (if b = -1 then 6 else 5) := by rw [← f, hset_other 47 (by decide), hset_other 47 (by decide), hset_row]
    have x48 : x 48 = upR (h 48) a.toNat b := by rw [← f, hset_other 48 (by decide), hset_row, hset_other 48 (by decide)]
    have x49 : x 49 = upR (h 49) a.toNat 0 := by rw [← f, hset_row, hset_other 49 (by decide), hset_other 49 (by decide)]
    have y86 : x2 86 = upR (x 86) a.toNat (if b = -1 then -2 else -1) := by rw [← e2, hset_other 86 (by decide), hset_row]
    have y87 : x2 87 = upR (x 87) a.toNat b := by rw [← e2, hset_row, hset_other 87 (by decide)]
    have y88 : x2 88 = x 88 := by rw [← e2, hset_other 88 (by decide), hset_other 88 (by decide)]
    have y89 : x2 89 = x 89 := by rw [← e2, hset_other 89 (by decide), hset_other 89 (by decide)]
    have x43 : x 43 = h 43 := by rw [← f, hset_other 43 (by decide), hset_other 43 (by decide), hset_other 43 (by decide)]
    refine ⟨by rw [← e2]; exact ((tM.rf.st (by decide) rfl).st (by decide) rfl).up c6_69, RLp.gg ?_⟩
    unfold RlG
    rw [x47, x48, x49, y86, y87, y88, y89, x43, ← g3]
    refine ⟨fun s hs => ?_, fun s hs => ?_, rfl, fun s hs => ?_, fun s j hs hj => ?_⟩
    · have q := g1 s hs
      by_cases w : s = a.toNat
      · rw [w, upR_same, upR_same]
        split <;> omega
      · rw [upR_ne w, upR_ne w]
        exact q
    · have q := g2 s hs
      by_cases w : s = a.toNat
      · rw [w, upR_same]
        rw [w] at q
        split <;> omega
      · rw [upR_ne w]
        exact q
    · have q := g4 s hs
      unfold RlS at q ⊢
      rw [x47, x48, x49, y86, y88]
      by_cases w : s = a.toNat
      · rw [w, upR_same, upR_same, upR_same, upR_same]
        by_cases y : b = -1
        · rw [if_pos y, if_pos y]
          exact Or.inl ⟨rfl, rfl⟩
        · rw [if_neg y, if_neg y]
          exact Or.inr (Or.inl ⟨rfl, rfl, by omega, by omega⟩)
      · rw [upR_ne w, upR_ne w, upR_ne w, upR_ne w]
        exact q
    · rw [← g5 s j hs hj, ← f, hset_other (51 + s) (by omega), hset_other (51 + s) (by omega), hset_other (51 + s) (by omega)]
theorem sim_row {K : KT} {d : Nat} {h : Hp} {a b c : Int} (hd : 130 ≤ d) (H : HOK h) (R : RLL h h) (q1 : inI a) (q2 : inI b) (q3 : inI c) : SIMC K yX11_row cX11_row 4 yX12_row cX12_row 5 (some .int) vI d [vR 0, vI a, vI b, vI c] [vR 57, vI a, vI b, vI c] h := by
  have m1 := c_X11_row (K := K) (dep := d) (h := h) (by omega) q1 q2 q3
  by_cases z : ¬ (0 ≤ a ∧ a < 6) ∨ ¬ (0 ≤ b ∧ b ≤ 4) ∨ 60 < c ∨ c < 0
  · have m2 := c_X12_row (K := K) (dep := d) (h := h) (by omega) q1 q2 q3
    exact SIMC.idp R m1 (fun x f => f.elim (fun w => w.2) (fun w => by omega)) m2 (fun x f => f.elim (fun w => w.2) (fun w => by omega))
  · have rp : ∀ x, ((¬ (0 ≤ a ∧ a < 6) ∨ ¬ (0 ≤ b ∧ b ≤ 4) ∨ 60 < c ∨ c < 0) ∧ x = h) ∨ (((0 ≤ a ∧ a < 6) ∧ (0 ≤ b ∧ b ≤ 4) ∧ 0 ≤ c ∧ c ≤ 60) ∧ RP a.toNat h b c x) → RP a.toNat h b c x := fun x f => f.elim (fun w => absurd w.1 z) (fun w => w.2)
    have t1 : ∀ x, RP a.toNat h b c x → tX [6] h x := fun x p => tX.ex p.1 (fun k hk => by
      simp only [List.mem_cons, List.not_mem_nil, or_false] at hk
      rcases hk with rfl | rfl | rfl
      · exact ⟨by decide, fun _ => rfl⟩
      · exact ⟨by decide, fun _ => rfl⟩
      · exact ⟨by omega, fun j => by rw [gX_sh (by omega)]; rfl⟩)
    refine SIMC.mk [6, 9] R m1 (fun x f => (t1 x (rp x f)).up c6_69) (fun x f hx r => ?_)
    have p := rp x f
    have m2 := c_X12_row (K := K) (dep := d) (h := x) (by omega) q1 q2 q3
    refine ⟨_, m2, fun x2 e2 => ?_⟩
    have p2 : RM x a b c x2 := e2.elim (fun w => absurd w.1 z) (fun w => w.2)
    have t2 : tM [6] x x2 := tM.ex p2.1 (fun k hk => by
      simp only [List.mem_cons, List.not_mem_nil, or_false] at hk
      rcases hk with rfl | rfl | rfl <;> exact ⟨by decide, fun _ => rfl⟩)
    obtain ⟨g1, g2, g3, g4, g5⟩ := r.g
    obtain ⟨pe, p47, p49, p51⟩ := p
    obtain ⟨qe, q86, q88, q89⟩ := p2
    have x47 : x 47 = upR (h 47) a.toNat b := funext p47
    have x49 : x 49 = upR (h 49) a.toNat c := funext p49
    have y86 : x2 86 = upR (x 86) a.toNat b := funext q86
    have y88 : x2 88 = upR (x 88) a.toNat c := funext q88
    have y89 : x2 89 = zrR (x 89) (60 * a.toNat) c := funext q89
    have x48 : x 48 = h 48 := pe 48 (by simp; omega)
    have x43 : x 43 = h 43 := pe 43 (by simp; omega)
    have y87 : x2 87 = x 87 := qe 87 rfl
    refine ⟨t2.up c6_69, RLp.gg ?_⟩
    unfold RlG
    rw [x47, x48, x49, y86, y87, y88, y89, x43, ← g3]
    refine ⟨fun s hs => ?_, fun s hs => ?_, rfl, fun s hs => ?_, fun s j hs hj => ?_⟩
    · have q := g1 s hs
      by_cases w : s = a.toNat
      · rw [w, upR_same, upR_same]
        omega
      · rw [upR_ne w, upR_ne w]
        exact q
    · have q := g2 s hs
      by_cases w : s = a.toNat
      · rw [w, upR_same, upR_same]
        omega
      · rw [upR_ne w, upR_ne w]
        exact q
    · have q := g4 s hs
      unfold RlS at q ⊢
      rw [x47, x48, x49, y86, y88]
      by_cases w : s = a.toNat
      · rw [w, upR_same, upR_same, upR_same, upR_same]
        exact Or.inr (Or.inr ⟨by omega, by omega, rfl, rfl⟩)
      · rw [upR_ne w, upR_ne w, upR_ne w, upR_ne w]
        exact q
    · have q := g5 s j hs hj
      by_cases w : s = a.toNat
      · rw [w] at q ⊢
        rw [p51 j]
        unfold zrR
        by_cases y : (j : Int) < c
        · rw [if_pos ⟨Nat.zero_le _, by omega⟩, if_pos ⟨by omega, by push_cast; omega⟩]
        · rw [if_neg (fun u => y (by have := u.2; push_cast at this; omega)), if_neg (fun u => y (by have := u.2; push_cast at this; omega))]
          exact q
      · have e51 : x (51 + s) = h (51 + s) := pe (51 + s) (by simp; omega)
        rw [e51]
        unfold zrR
        rw [if_neg (fun u => by
          have u1 := u.1
          have u2 := u.2
          push_cast at u2
          omega)]
        exact q
theorem low_eq {nb : Int} {g h : Hp} (R : RlG nb g h) {a b v : Int} (z : whyX (g 47) (g 49) a b = 0) : lowF (h 86 a.toNat) v = lowF (g 47 a.toNat) v := by
  have q := whyX_0 R.1 z
  have s := R.2.2.2.1 a.toNat (by omega)
  unfold RlS at s
  rw [show h 86 a.toNat = g 47 a.toNat by omega]
theorem sim_put {K : KT} {d : Nat} {h : Hp} {a b v : Int} (hd : 130 ≤ d) (H : HOK h) (R : RLL h h) (q1 : inI a) (q2 : inI b) (q3 : inL v) : SIMC K yX11_put cX11_put 6 yX12_put cX12_put 6 (some .int) vI d [vR 0, vI a, vI b, vL v] [vR 57, vI a, vI b, vL v] h := by
  have m1 := c_X11_put (K := K) (dep := d) (h := h) (by omega) R.g.1 q1 q2 q3
  rcases why_rel R.g a b with ⟨z1, z2⟩ | ⟨z1, z2, z3⟩
  · rw [if_pos z1, if_pos z1] at m1
    have ra := whyX_0 R.g.1 z1
    have t1 : ∀ x, (hset h (51 + a.toNat) b.toNat (lowF (h 47 a.toNat) v)) = x → tX [6] h x := fun x f => by
      rw [← f]
      exact tX.rf.st (by omega) (by rw [gX_sh (by omega)]; rfl)
    refine SIMC.mk [6, 9] R m1 (fun x f => (t1 x f).up c6_69) (fun x f hx r => ?_)
    have m2 := c_X12_put (K := K) (dep := d) (h := x) (by omega) r.g.2.1 q1 q2 q3
    have z4 : whyM (x 86) (x 88) a b = 1 := by
      rcases why_rel r.g a b with ⟨_, w⟩ | ⟨w, _⟩
      · exact w
      · exact absurd z1 w
    rw [if_pos z4, z4, low_eq r.g z1] at m2
    refine ⟨_, m2, fun x2 e2 => ?_⟩
    have t2 : tM [6] x x2 := by
      rw [← e2]
      exact tM.rf.st (by decide) rfl
    obtain ⟨g1, g2, g3, g4, g5⟩ := r.g
    refine ⟨t2.up c6_69, RLp.gg ?_⟩
    have xo : ∀ k : Nat, k ≠ 51 + a.toNat → x k = h k := fun k hk => by rw [← f, hset_other k hk]
    have yo : ∀ k : Nat, k ≠ 89 → x2 k = x k := fun k hk => by rw [← e2, hset_other k hk]
    unfold RlG RlS
    rw [xo 47 (by omega), xo 48 (by omega), xo 49 (by omega), xo 43 (by omega), yo 86 (by decide), yo 87 (by decide), yo 88 (by decide)]
    refine ⟨g1, g2, g3, g4, fun s j hs hj => ?_⟩
    have q := g5 s j hs hj
    have ex : x (51 + s) j = if 51 + s = 51 + a.toNat ∧ j = b.toNat then lowF (h 47 a.toNat) v else h (51 + s) j := by rw [← f, hset_app]
    have ey : x2 89 (60 * s + j) = if 89 = 89 ∧ 60 * s + j = (60 * a + b).toNat then lowF (h 47 a.toNat) v else x 89 (60 * s + j) := by rw [← e2, hset_app]
    rw [ex, ey]
    by_cases w : s = a.toNat ∧ j = b.toNat
    · rw [if_pos ⟨by omega, w.2⟩, if_pos ⟨rfl, by omega⟩]
    · rw [if_neg (fun u => w ⟨by have := u.1; omega, u.2⟩), if_neg (fun u => w (by have := u.2; omega))]
      exact q
  · rw [if_neg z1, if_neg z1, z3] at m1
    have m2 := c_X12_put (K := K) (dep := d) (h := h) (by omega) R.g.2.1 q1 q2 q3
    rw [if_neg z2] at m2
    exact SIMC.id R m1 m2
theorem sim_shift {K : KT} {dd : Nat} {h : Hp} {a b c d e : Int} (hd : 130 ≤ dd) (H : HOK h) (R : RLL h h) (q1 : inI a) (q2 : inI b) (q3 : inI c) (q4 : inI d) (q5 : inI e) : SIMC K yX11_shift cX11_shift 8 yX12_shift cX12_shift 7 (some .int) vI dd [vR 0, vI a, vI b, vI c, vI d, vI e] [vR 57, vI a, vI b, vI c, vI d, vI e] h := by
  have m1 := c_X11_shift (K := K) (dep := dd) (h := h) (by omega) R.g.1 q1 q2 q3 q4 q5
  have m2 := c_X12_shift (K := K) (dep := dd) (h := h) (by omega) R.g.2.1 q1 q2 q3 q4 q5
  have G4 := R.g.2.2.2.1
  have P1 := R.g.1
  by_cases z : ((0 ≤ a ∧ a < 6) ∧ (0 ≤ c ∧ c < 6)) ∧ ¬ (h 47 a.toNat = 6 ∨ h 47 c.toNat = 6) ∧ ¬ (h 47 a.toNat = 5 ∨ h 47 a.toNat ≠ h 47 c.toNat) ∧ ((0 ≤ b ∧ 0 ≤ e ∧ b + e ≤ h 49 a.toNat) ∧ (0 ≤ d ∧ d + e ≤ h 49 c.toNat))
  · have ga := G4 a.toNat (by omega)
    have gc := G4 c.toNat (by omega)
    have pa := P1 a.toNat (by omega)
    have pc := P1 c.toNat (by omega)
    unfold RlS at ga gc
    rw [if_pos z, if_neg (by omega), if_neg (by omega), if_neg (by omega), if_neg (by omega)] at m1
    have t1 : ∀ x, (hcpy h (51 + a.toNat) (51 + c.toNat) b.toNat d.toNat e.toNat) = x → tX [6] h x := fun x f => by
      have q : ∀ k : Nat, k ≠ 51 + c.toNat → x k = h k := fun k hk => by rw [← f, hcpy_other k hk]
      refine ⟨fun k hk => q k (by omega), fun k j hk w => ?_⟩
      by_cases u : k = 51 + c.toNat
      · rw [u, gX_sh (by omega)] at w
        exact absurd w (by decide)
      · exact congrFun (q k u) j
    refine SIMC.mk [6, 9] R m1 (fun x f => (t1 x f).up c6_69) (fun x f hx r => ?_)
    have ra := r.g.2.2.2.1 a.toNat (by omega)
    have rc := r.g.2.2.2.1 c.toNat (by omega)
    unfold RlS at ra rc
    have m3 := c_X12_shift (K := K) (dep := dd) (h := x) (by omega) r.g.2.1 q1 q2 q3 q4 q5
    rw [if_neg (by omega), if_neg (by omega), if_neg (by omega), if_neg (by omega)] at m3
    refine ⟨_, m3, fun x2 e2 => ?_⟩
    rcases e2 with e2 | ⟨_, e2, e89⟩
    · exact absurd (by omega) e2.1
    have t2 : tM [6, 9] x x2 := tM.ex e2 (fun k hk => by
      simp only [List.mem_cons, List.not_mem_nil, or_false] at hk
      rcases hk with rfl | rfl <;> exact ⟨by decide, fun _ => rfl⟩)
    obtain ⟨g1, g2, g3, g4, g5⟩ := r.g
    refine ⟨t2, RLp.gg ?_⟩
    have xo : ∀ k : Nat, k ≠ 51 + c.toNat → x k = h k := fun k hk => by rw [← f, hcpy_other k hk]
    have yo : ∀ k : Nat, [89, 90].contains k = false → x2 k = x k := e2
    unfold RlG RlS
    rw [xo 47 (by omega), xo 48 (by omega), xo 49 (by omega), xo 43 (by omega), yo 86 rfl, yo 87 rfl, yo 88 rfl]
    refine ⟨g1, g2, g3, g4, fun s j hs hj => ?_⟩
    have R5 := r.g.2.2.2.2
    rw [e89]
    unfold cpR
    by_cases w : s = c.toNat
    · have ex : x (51 + s) j = if 51 + s = 51 + c.toNat ∧ d.toNat ≤ j ∧ j < d.toNat + e.toNat then h (51 + a.toNat) (b.toNat + (j - d.toNat)) else h (51 + s) j := by rw [← f, hcpy_app]
      rw [ex]
      by_cases u : d.toNat ≤ j ∧ j < d.toNat + e.toNat
      · rw [if_pos ⟨by omega, u⟩, if_pos ⟨by omega, by omega⟩]
        have q2 := R5 a.toNat (b.toNat + (j - d.toNat)) (by omega) (by omega)
        rw [q2, show 60 * a.toNat + b.toNat + (60 * s + j - (60 * c.toNat + d.toNat)) = 60 * a.toNat + (b.toNat + (j - d.toNat)) by omega]
      · rw [if_neg (fun y => u y.2), if_neg (fun y => u ⟨by have := y.1; omega, by have := y.2; omega⟩)]
        have q2 := R5 s j hs hj
        exact q2
    · rw [xo (51 + s) (by omega), if_neg (fun y => by
        have y1 := y.1
        have y2 := y.2
        omega)]
      exact R5 s j hs hj
  · rw [if_neg z] at m1
    have ev : (if ¬ ((0 ≤ a ∧ a < 6) ∧ (0 ≤ c ∧ c < 6)) then (-1 : Int) else if h 86 a.toNat = -2 ∨ h 86 c.toNat = -2 then -11 else if h 86 a.toNat < 0 ∨ h 86 a.toNat ≠ h 86 c.toNat then -12 else if ¬ ((0 ≤ b ∧ 0 ≤ d ∧ 0 ≤ e) ∧ b ≤ h 88 a.toNat - e ∧ d ≤ h 88 c.toNat - e) then -13 else e) = (if ¬ ((0 ≤ a ∧ a < 6) ∧ (0 ≤ c ∧ c < 6)) then -1 else if h 47 a.toNat = 6 ∨ h 47 c.toNat = 6 then -11 else if h 47 a.toNat = 5 ∨ h 47 a.toNat ≠ h 47 c.toNat then -12 else if ¬ ((0 ≤ b ∧ 0 ≤ e ∧ b + e ≤ h 49 a.toNat) ∧ (0 ≤ d ∧ d + e ≤ h 49 c.toNat)) then -13 else e) := by
      by_cases y : ¬ ((0 ≤ a ∧ a < 6) ∧ (0 ≤ c ∧ c < 6))
      · rw [if_pos y, if_pos y]
      · have ga := G4 a.toNat (by omega)
        have gc := G4 c.toNat (by omega)
        unfold RlS at ga gc
        rw [if_neg y, if_neg y]
        by_cases y1 : h 47 a.toNat = 6 ∨ h 47 c.toNat = 6
        · rw [if_pos y1, if_pos (by omega)]
        · rw [if_neg y1, if_neg (by omega)]
          by_cases y2 : h 47 a.toNat = 5 ∨ h 47 a.toNat ≠ h 47 c.toNat
          · rw [if_pos y2, if_pos (by omega)]
          · rw [if_neg y2, if_neg (by omega)]
            by_cases y3 : ¬ ((0 ≤ b ∧ 0 ≤ e ∧ b + e ≤ h 49 a.toNat) ∧ (0 ≤ d ∧ d + e ≤ h 49 c.toNat))
            · rw [if_pos y3, if_pos (by omega)]
            · rw [if_neg y3, if_neg (by omega)]
    rw [ev] at m2
    refine SIMC.idp R m1 (fun x f => f.symm) m2 (fun x f => f.elim (fun w => w.2) (fun w => ?_))
    exfalso
    have w1 := w.1
    have ga := G4 a.toNat (by omega)
    have gc := G4 c.toNat (by omega)
    unfold RlS at ga gc
    omega
