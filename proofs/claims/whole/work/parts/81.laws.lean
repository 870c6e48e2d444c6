/-! one call of both: feed, law -/
theorem sim_feed {K : KT} {d : Nat} {h : Hp} {a v : Int} (hd : 130 ≤ d) (H : HOK h) (R : RLL h h) (q1 : inI a) (q2 : inI v) : SIMC K yX11_feed cX11_feed 3 yX12_feed cX12_feed 4 (some .int) vI d [vR 0, vI a, vI v] [vR 57, vI a, vI v] h := by
  obtain ⟨p1, p2, p3, p4, p5, p6, p7, p8, p9⟩ := R.d
  have m1 := c_X11_feed (K := K) (dep := d) (h := h) (by omega) ⟨p2, p3⟩ q1 q2
  by_cases z : ¬ (1 ≤ a ∧ a ≤ 4)
  · rw [if_pos z] at m1
    have m2 := c_X12_feed (K := K) (dep := d) (h := h) (by omega) (by omega) q1 q2
    rw [if_pos z] at m2
    exact SIMC.idp R m1 (fun x f => f.elim (fun w => w.2) (fun w => absurd w.1 z)) m2 (fun x f => f.elim (fun w => w.2) (fun w => absurd w.1 z))
  · rw [if_neg z] at m1
    by_cases y : 120 < h 26 4 + a
    · rw [if_pos y] at m1
      have m2 := c_X12_feed (K := K) (dep := d) (h := h) (by omega) (by omega) q1 q2
      rw [if_neg z, if_pos (show 120 < h 57 29 + a by omega)] at m2
      exact SIMC.idp R m1 (fun x f => f.elim (fun w => w.2) (fun w => by omega)) m2 (fun x f => f.elim (fun w => w.2) (fun w => by omega))
    · rw [if_neg y] at m1
      have tp : ∀ x, ((¬ (1 ≤ a ∧ a ≤ 4) ∨ 120 < h 26 4 + a) ∧ x = h) ∨ ((1 ≤ a ∧ a ≤ 4) ∧ h 26 4 + a ≤ 120 ∧ TP h a v x) → TP h a v x := fun x f => f.elim (fun w => w.1.elim (fun u => absurd u z) (fun u => absurd u y)) (fun w => w.2.2)
      have tx : ∀ x, TP h a v x → tX [3, 9] h x := fun x t => ⟨fun k hk => t.1 k (by simp; omega), fun k j hk w => by
        by_cases u : k = 26
        · rw [u] at w ⊢
          rw [t.2.1 j]
          unfold upR
          by_cases j4 : j = 4
          · rw [j4] at w
            exact absurd w (by decide)
          · rw [if_neg j4]
        · by_cases u2 : k = 28
          · rw [u2] at w
            exact absurd w (by simp [gX])
          · exact congrFun (t.1 k (by simp; omega)) j⟩
      refine SIMC.mk [3, 9] R m1 (fun x f => tx x (tp x f)) (fun x f hx r => ?_)
      have t := tp x f
      obtain ⟨p1, p2, p3, p4, p5, p6, p7, p8, p9⟩ := r.d
      have m2 := c_X12_feed (K := K) (dep := d) (h := x) (by omega) (by omega) q1 q2
      rw [if_neg z, if_neg (show ¬ 120 < x 57 29 + a by omega), ← p1] at m2
      refine ⟨_, m2, fun x2 f2 => ?_⟩
      have s : TM x a v x2 := f2.elim (fun w => w.1.elim (fun u => absurd u z) (fun u => by omega)) (fun w => w.2.2)
      have ty : tM [3, 9] x x2 := ⟨fun k hk => s.1 k (by simp; omega), fun k j hk w => by
        by_cases u : k = 57
        · rw [u] at w ⊢
          rw [s.2.1 j]
          unfold upR
          by_cases j4 : j = 29
          · rw [j4] at w
            exact absurd w (by decide)
          · rw [if_neg j4]
        · by_cases u2 : k = 75
          · rw [u2] at w
            exact absurd w (by simp [gM])
          · exact congrFun (s.1 k (by simp; omega)) j⟩
      refine ⟨ty, RLp.d ?_⟩
      have x4 : x 26 4 = h 26 4 + a := by rw [t.2.1 4]; rfl
      have x5 : x 26 5 = h 26 5 := by rw [t.2.1 5]; rfl
      have y29 : x2 57 29 = h 26 4 + a := by rw [s.2.1 29, ← p1]; rfl
      have y30 : x2 57 30 = x 57 30 := by rw [s.2.1 30]; rfl
      have y77 : x2 77 = x 77 := s.1 77 rfl
      have y76 : x2 76 = x 76 := s.1 76 rfl
      have x34 : x 34 = h 34 := t.1 34 rfl
      unfold RlD
      rw [x4, x5, y29, y30, y77]
      refine ⟨rfl, by omega, by omega, fun j => ?_, p5, p6, p7, p8, fun l hl => ?_⟩
      · rw [s.2.2 j, t.2.2 j, ← p1]
        by_cases w : h 26 4 ≤ j ∧ (j : Int) < h 26 4 + a
        · rw [if_pos w, if_pos w]
          exact (byXM v (k := j - (h 26 4).toNat) (by omega)).symm
        · rw [if_neg w, if_neg w]
          exact p4 j
      · have q := p9 l hl
        have el : x (30 + l) = h (30 + l) := t.1 (30 + l) (by simp; omega)
        have et : tokL x2 l = tokL x l := by unfold tokL; rw [y76, y77]
        unfold RlL at q ⊢
        rw [x34, el, y77, et]
        exact q
theorem STK_rev {row : Nat → Int} {b : Nat} {L : List Int} (H : STK row b L) : (List.range L.length).map (fun i => row (b + i)) = L.reverse := by
  apply List.ext_getElem?
  intro i
  by_cases hi : i < L.length
  · rw [List.getElem?_map, List.getElem?_range hi, List.getElem?_reverse hi]
    simp only [Option.map_some]
    rw [H i hi, List.getD_eq_getElem?_getD]
    rw [List.getElem?_eq_getElem (by omega)]
    rfl
  · rw [List.getElem?_eq_none (by simp; omega), List.getElem?_eq_none (by simp; omega)]
theorem lf_mono {g h : Hp} {m : Nat} (R : ∀ l : Nat, l < m → RlL g h l) : ∀ n k : Nat, k + n ≤ m → h 77 k ≤ h 77 (k + n)
  | 0, k, _ => Int.le_refl _
  | n + 1, k, hk => by
    have a := lf_mono R n k (by omega)
    have b := (R (k + n) (by omega)).2.2.1
    rw [show k + (n + 1) = k + n + 1 by omega]
    omega
/-- a law told before keeps its tokens -/
theorem tokL_old {h x : Hp} {base l : Nat} (e77 : x 77 l = h 77 l) (e77b : x 77 (l + 1) = h 77 (l + 1)) (e76 : ∀ j : Nat, j < base → x 76 j = h 76 j) (h0 : 0 ≤ h 77 l) (h1 : h 77 l ≤ h 77 (l + 1)) (h2 : h 77 (l + 1) ≤ base) : tokL x l = tokL h l := by
  unfold tokL
  simp only [Int.toNat_natCast, show ((l : Int) + 1).toNat = l + 1 by omega]
  rw [e77, e77b]
  exact List.map_congr_left (fun i hi => by
    have hi := List.mem_range.mp hi
    exact e76 _ (by omega))
theorem bytes4 {h : Hp} (H : HOK h) {l : Nat} (hl : l < 4) (j : Nat) : inB (h (30 + l) j) := by
  have c : l = 0 ∨ l = 1 ∨ l = 2 ∨ l = 3 := by omega
  rcases c with rfl | rfl | rfl | rfl
  · exact H.bytes ly_30 j
  · exact H.bytes ly_31 j
  · exact H.bytes ly_32 j
  · exact H.bytes ly_33 j
theorem MS.t {g x : Hp} {base : Nat} {A O C : Int} {P T S : List Int} (M : MS g base A P T O S C x) : tM [3, 9] g x := by
  obtain ⟨e, s, -⟩ := M
  refine ⟨fun k hk => e k (by simp; omega), fun k j hk w => ?_⟩
  by_cases u : k = 57
  · rw [u] at w ⊢
    by_cases v : j < 31 ∨ 36 < j
    · exact s j v
    · exfalso
      have e9 : gM 57 j = 9 := by
        unfold gM
        rw [if_pos rfl]
        (repeat' split) <;> omega
      rw [e9] at w
      exact absurd w (by decide)
  · by_cases u2 : k = 76
    · rw [u2] at w
      exact absurd w (by simp [gM])
    · by_cases u3 : k = 78
      · rw [u3] at w
        exact absurd w (by simp [gM])
      · by_cases u4 : k = 79
        · rw [u4] at w
          exact absurd w (by simp [gM])
        · exact congrFun (e k (by simp; omega)) j
theorem rdX_W {T : Nat → Int} {E : Int} (hT : ∀ j : Nat, inB (T j)) (h0 : 0 ≤ E) (h1 : E ≤ 120) (V : Nat → Int) (g : (rdM (BQ T) E 121 true 0 [] [] 0 0 [] 0).1 ≠ 0) : evF (LqV V) (rdM (BQ T) E 121 true 0 [] [] 0 0 [] 0).2.2.2.1.reverse [] true = (rdX T E V).1 := by
  rcases rdX_M V hT h0 h1 with ⟨_, _, q, _⟩ | ⟨_, q, _⟩
  · exact q
  · exact absurd q g
theorem sim_law {K : KT} {d : Nat} {h : Hp} (hd : 130 ≤ d) (H : HOK h) (R : RLL h h) : SIMC K yX11_law cX11_law 1 yX12_law cX12_law 2 (some .int) vI d [vR 0] [vR 57] h := by
  obtain ⟨p1, p2, p3, p4, p5, p6, p7, p8, p9⟩ := R.d
  have m1 := c_X11_law (K := K) (dep := d) (h := h) (by omega) ⟨p2, p3⟩ ⟨p6, p7⟩
  by_cases z : 4 ≤ h 26 5
  · rw [if_pos z] at m1
    have m2 := c_X12_law (K := K) (dep := d) (h := h) (by omega) (by omega) (fun w => by omega) (by omega)
    rw [if_pos (show h 57 30 = 4 by omega)] at m2
    exact SIMC.idp R m1 (fun x f => f.elim (fun w => w.2) (fun w => by have := w.1; omega)) m2 (fun x f => f.elim (fun w => w.2) (fun w => by have := w.1; omega))
  · rw [if_neg z] at m1
    obtain ⟨l, hl⟩ : ∃ l : Nat, h 26 5 = (l : Int) := ⟨(h 26 5).toNat, by omega⟩
    have hl4 : l < 4 := by omega
    have lt : (h 26 5).toNat = l := by omega
    have tx : ∀ x, LCx h x → tX [3, 9] h x := fun x f => by
      rcases f with f | ⟨_, f4, f⟩
      · rw [f.2]
        exact tX.rf
      · have key : EX [26, 34, 30 + l] h x := by
          rcases f with f | f
          · exact f.2.1.wd (fun k hk => by simp at hk ⊢; exact hk.1)
          · have q := f.2.1
            rw [lt] at q
            exact q
        have k5 : ∀ j : Nat, j ≠ 4 → j ≠ 5 → [3, 9].contains (gX 26 j) = true := fun j h1 h2 => by simp [gX, h1, h2]
        refine ⟨fun k hk => key k (by simp; omega), fun k j hk w => ?_⟩
        by_cases u : k = 26
        · rw [u] at w
          exfalso
          by_cases j4 : j = 4 ∨ j = 5
          · rcases j4 with j4 | j4 <;> rw [j4] at w <;> exact absurd w (by decide)
          · rw [k5 j (fun y => j4 (Or.inl y)) (fun y => j4 (Or.inr y))] at w
            exact absurd w (by decide)
        · by_cases u2 : 28 ≤ k ∧ k ≤ 34
          · have e3 : gX k j = 3 := by
              unfold gX
              rw [if_neg (by omega), if_neg (by omega), if_neg (by omega), if_neg (by omega), if_neg (by omega), if_neg (by omega), if_pos (by omega)]
            rw [e3] at w
            exact absurd w (by decide)
          · exact congrFun (key k (by simp; omega)) j
    refine SIMC.mk [3, 9] R m1 tx (fun x f hx r => ?_)
    obtain ⟨p1, p2, p3, p4, p5, p6, p7, p8, p9⟩ := r.d
    have b0 := p8 l (by omega)
    have e30 : (x 57 30).toNat = l := by omega
    have m2 := c_X12_law (K := K) (dep := d) (h := x) (by omega) (by omega) (fun w => by rw [e30]; omega) (by omega)
    rw [if_neg (show ¬ x 57 30 = 4 by omega)] at m2
    have hT : ∀ j : Nat, inB (h 28 j) := fun j => H.bytes ly_28 j
    have e75 : x 75 = BQ (h 28) := funext p4
    have eR : rdH x = rdM (BQ (h 28)) (h 26 4) 121 true 0 [] [] 0 0 [] 0 := by
      show rdM (x 75) (x 57 29) 121 true 0 [] [] 0 0 [] 0 = _
      rw [e75, p1]
    have LE := rdX_M (h 27) hT p2 p3
    rw [← eR] at LE
    have TL : ((rdH x).2.2.2.1.length : Int) ≤ h 26 4 + 1 := by
      rw [eR]
      exact rdM_len _ _ _ _ _ _ _ _ _ ⟨Int.le_refl _, p2, p3, by decide, by decide, by decide, rfl, by decide, by decide⟩
    rcases f with f | ⟨_, f4, f⟩
    · exact absurd f.1 z
    have bs : bsH x = (x 77 l).toNat := by show (x 77 (x 57 30).toNat).toNat = _; rw [e30]
    have old : ∀ (x2 : Hp), (∀ j : Nat, j ≤ l → x2 77 j = x 77 j) → (∀ j : Nat, j < bsH x → x2 76 j = x 76 j) → ∀ k : Nat, k < l → tokL x2 k = tokL x k ∧ x2 77 k = x 77 k ∧ x2 77 (k + 1) = x 77 (k + 1) := fun x2 e1 e2 k hk => by
      have mo := lf_mono (m := l) (fun i hi => p9 i (by omega)) (l - (k + 1)) (k + 1) (by omega)
      rw [show k + 1 + (l - (k + 1)) = l by omega] at mo
      have a := p8 k (by omega)
      have b := (p9 k (by omega)).2.2.1
      exact ⟨tokL_old (base := bsH x) (e1 k (by omega)) (e1 (k + 1) (by omega)) e2 a.1 b (by rw [bs]; omega), e1 k (by omega), e1 (k + 1) (by omega)⟩
    rcases f with ⟨f1, fe, f5⟩ | ⟨f1, fe, f5, f34, ft⟩
    · rcases LE with ⟨u, _⟩ | ⟨u1, u2, u3⟩
      · exact absurd u f1
      rw [if_pos f1]
      rw [if_pos u2, u3] at m2
      refine ⟨_, m2, fun x2 f2 => ?_⟩
      rcases f2 with f2 | ⟨_, y, ms, f2⟩
      · exact absurd f2.1 (by omega)
      rcases f2 with ⟨_, e2⟩ | ⟨w, _⟩
      · have ty : tM [3, 9] x x2 := by
          rw [e2]
          exact (MS.t ms).st (by decide) rfl
        obtain ⟨me, m57, m31, m32, m33, m34, m35, m36, s78, s76, o76, s79⟩ := ms
        have y77 : x2 77 = x 77 := by rw [e2, hset_other 77 (by decide), me 77 rfl]
        have y76 : ∀ j : Nat, j < bsH x → x2 76 j = x 76 j := fun j hj => by rw [e2, hset_other 76 (by decide)]; exact o76 j hj
        have y75 : x2 75 = x 75 := by rw [e2, hset_other 75 (by decide), me 75 rfl]
        have y29 : x2 57 29 = 0 := by rw [e2]; exact hset_same _ _ _ _
        have y30 : x2 57 30 = x 57 30 := by rw [e2, hset_slot (by decide)]; exact m57 30 (by decide)
        have x28 : x 28 = h 28 := fe 28 rfl
        have x34 : x 34 = h 34 := fe 34 rfl
        refine ⟨ty, RLp.d ?_⟩
        unfold RlD
        rw [f4, f5, y29, y30, y75, y77, x28]
        refine ⟨rfl, by decide, by decide, p4, p5, p6, p7, p8, fun k hk => ?_⟩
        have q := p9 k hk
        have t := old x2 (fun j _ => by rw [y77]) y76 k (by omega)
        have el : x (30 + k) = h (30 + k) := fe (30 + k) (by simp; omega)
        unfold RlL at q ⊢
        rw [x34, el, y77, t.1]
        exact q
      · exact absurd u2 w
    · rcases Or.symm LE with ⟨u1, _⟩ | ⟨_, u1, u2, u3⟩
      · exact absurd f1 u1
      have nz : ¬ (rdH x).1 = 0 := by rw [u1]; decide
      rw [if_neg (show ¬ (lwX h).2 ≠ -1 from fun w => w f1)]
      rw [if_neg nz, ← p5] at m2
      refine ⟨_, m2, fun x2 f2 => ?_⟩
      rcases f2 with f2 | ⟨_, y, ms, f2⟩
      · exact absurd f2.1 (by omega)
      rcases f2 with ⟨w, _⟩ | ⟨_, e2⟩
      · exact absurd w nz
      rw [lt] at fe f34 ft
      rw [← p5, show (h 26 5 + 1).toNat = l + 1 by omega] at e2
      have ty : tM [3, 9] x x2 := by
        rw [e2]
        exact (((MS.t ms).st (by decide) rfl).st (by decide) rfl).st (by decide) rfl
      obtain ⟨me, m57, m31, m32, m33, m34, m35, m36, s78, s76, o76, s79⟩ := ms
      have y77 : ∀ j : Nat, x2 77 j = if j = l + 1 then (bsH x : Int) + (rdH x).2.2.2.1.length else x 77 j := fun j => by
        rw [e2, hset_app]
        by_cases w : j = l + 1
        · rw [if_pos ⟨rfl, w⟩, if_pos w]
        · rw [if_neg (fun u => w u.2), if_neg w, hset_other 77 (by decide), hset_other 77 (by decide), me 77 rfl]
      have y76r : x2 76 = y 76 := by rw [e2, hset_other 76 (by decide), hset_other 76 (by decide), hset_other 76 (by decide)]
      have y76 : ∀ j : Nat, j < bsH x → x2 76 j = x 76 j := fun j hj => by rw [y76r]; exact o76 j hj
      have y75 : x2 75 = x 75 := by rw [e2, hset_other 75 (by decide), hset_other 75 (by decide), hset_other 75 (by decide), me 75 rfl]
      have y29 : x2 57 29 = 0 := by rw [e2, hset_other 57 (by decide), hset_slot (by decide)]; exact hset_same _ _ _ _
      have y30 : x2 57 30 = h 26 5 + 1 := by rw [e2, hset_other 57 (by decide)]; exact hset_same _ _ _ _
      have x28 : x 28 = h 28 := fe 28 (by simp; omega)
      have ab : 0 ≤ x 77 l ∧ x 77 l ≤ 121 * (l : Int) := b0
      refine ⟨ty, RLp.d ?_⟩
      unfold RlD
      rw [f4, f5, y29, y30, y75, x28]
      refine ⟨rfl, by decide, by decide, p4, rfl, by omega, by omega, fun k hk => ?_, fun k hk => ?_⟩
      · rw [y77]
        by_cases w : k = l + 1
        · rw [if_pos w, bs, w]
          push_cast
          omega
        · rw [if_neg w]
          exact p8 k (by omega)
      · by_cases w : k = l
        · have ek : x 34 k = h 26 4 := by rw [f34 k, w]; unfold upR; rw [if_pos rfl]
          have a1 : x2 77 (k + 1) = (bsH x : Int) + (rdH x).2.2.2.1.length := by rw [y77, if_pos (by omega)]
          have a2 : x2 77 k = x 77 l := by rw [y77, if_neg (by omega), w]
          have tk : tokL x2 k = (rdH x).2.2.2.1.reverse := by
            unfold tokL
            simp only [Int.toNat_natCast, show ((k : Int) + 1).toNat = k + 1 by omega]
            rw [a1, a2, y76r, bs, show (((x 77 l).toNat : Int) + ((rdH x).2.2.2.1.length : Int) - x 77 l).toNat = (rdH x).2.2.2.1.length by omega]
            rw [bs] at s76
            exact STK_rev s76
          have hT2 : ∀ j : Nat, inB (x (30 + k) j) := fun j => bytes4 hx (by omega) j
          have er : rdM (BQ (x (30 + k))) (h 26 4) 121 true 0 [] [] 0 0 [] 0 = rdH x := by
            rw [eR]
            exact rdM_row (fun j hj => by
              show b255 (x (30 + k) j) = b255 (h 28 j)
              rw [w, ft j, if_pos (by omega)]) _ _ _ _ _ _ _ _ _ (Int.le_refl _)
          unfold RlL
          rw [ek, a2, a1, tk, bs]
          refine ⟨p2, p3, by omega, u3, by rw [List.length_reverse]; omega, fun V => ?_⟩
          have q := rdX_W hT2 p2 p3 V (by rw [er]; exact nz)
          rw [er] at q
          exact q
        · have q := p9 k (by omega)
          have t := old x2 (fun j hj => by rw [y77, if_neg (by omega)]) y76 k (by omega)
          have el : x (30 + k) = h (30 + k) := fe (30 + k) (by simp; omega)
          have e34 : x 34 k = h 34 k := by rw [f34 k]; unfold upR; rw [if_neg w]
          unfold RlL at q ⊢
          rw [e34, el, t.1, t.2.1, t.2.2]
          exact q
