/-! one call of both: race -/
theorem evF_nm {nm nm2 : Int → Int} (e : ∀ t : Int, nmP t → nm t = nm2 t) : ∀ (L D : List Int) (c : Bool), evF nm L D c = evF nm2 L D c
  | [], D, c => rfl
  | t :: L, D, c => by
    rw [evF, evF]
    simp only [evF_nm e L]
    by_cases z : nmP t
    · rw [e t z]
    · rw [if_neg z, if_neg z]
theorem nm_at : nmI 102 = 0 ∧ nmI 116 = 1 ∧ nmI 115 = 2 ∧ nmI 121 = 3 ∧ nmI 112 = 4 ∧ nmI 110 = 5 ∧ nmI 103 = 6 ∧ nmI 107 = 7 ∧ nmI 122 = 8 := by decide +kernel
theorem nmF_nv {g h : Hp} (R : RlB g h) (r : Nat) (y : Int) (s : Nat) (draw t : Int) (ht : nmP t) : LqV (nvF ((fThen (g 2) (g 3) r y).tdiv 10) (g 4 r) (g 5 r) y (lessF (g 1 4) (g 2) (g 3) r y) (g 1 4) (g 8 s) (g 7 s) draw) t = nmF h r y s draw t := by
  obtain ⟨⟨a1, a2, a3, a4, a5⟩, ⟨b1, b2', b3, b4⟩, -⟩ := R
  obtain ⟨n0, n1, n2, n3, n4, n5, n6, n7, n8⟩ := nm_at
  rw [a1, a2, a3, a4, a5, b2', b3]
  show nvF _ _ _ _ _ _ _ _ _ (nmI t).toNat = _
  rcases ht with rfl | rfl | rfl | rfl | rfl | rfl | rfl | rfl | rfl
  · rw [n0]; rfl
  · rw [n1]; rfl
  · rw [n2]; rfl
  · rw [n3]; rfl
  · rw [n4]; rfl
  · rw [n5]; rfl
  · rw [n6]; rfl
  · rw [n7]; rfl
  · rw [n8]; rfl
theorem worn_eq {g h : Hp} (R : RlB g h) {law : Int} (h0 : 0 ≤ law) (Q : RlL g h law.toNat) (shoe year : Int) (r : Nat) (z : Int) : wornX g law shoe year r z = wornM h law shoe year r z := by
  have q := Q.2.2.2.2.2
  rw [Int.toNat_of_nonneg h0] at q
  unfold wornX wornM
  rw [← q, evF_nm (nm2 := nmF h r year shoe.toNat (ptF z 100)) (fun t ht => nmF_nv R r year shoe.toNat (ptF z 100) t ht)]
theorem tm_eq (flat luck : Int) : tmF flat luck = tmM ((flat * (1000 + luck)).tdiv 1000) := by
  unfold tmF tmM
  generalize (flat * (1000 + luck)).tdiv 1000 = m
  (repeat' split) <;> omega
theorem rt_eq {g h : Hp} (R : RlB g h) {law : Int} (h0 : 0 ≤ law) (Q : RlL g h law.toNat) (course year shoe day : Int) (r : Nat) (z : Int) : rtX g law course year shoe day r z = rtM h law course year shoe day r z := by
  unfold rtX rtM
  rw [tm_eq, worn_eq R h0 Q]
  obtain ⟨⟨a1, a2, a3, a4, a5⟩, ⟨b1, b2', b3, b4⟩, ⟨c1, c2⟩, -⟩ := R
  rw [a2, a3, b3, c2]
  congr 2
  congr 1
  omega
theorem rs_eq {g h : Hp} (R : RlB g h) (e : g 0 10 = h 57 17) {law : Int} (h0 : 0 ≤ law) (Q : RlL g h law.toNat) (shoe year : Int) (r : Nat) (z : Int) : rsX2 g law shoe year r z = rsM2 h law shoe year r z := by
  unfold rsX2 rsM2
  rw [worn_eq R h0 Q, e]
theorem WS.t {g g1 : Hp} (w : WS g g1) : tX [9] g g1 := by
  obtain ⟨e, e4, e5⟩ := w
  refine ⟨fun k hk => e k (by simp; omega), fun k j hk u => ?_⟩
  by_cases v : k = 26
  · rw [v] at u ⊢
    by_cases j4 : j = 4
    · rw [j4]; exact e4
    · by_cases j5 : j = 5
      · rw [j5]; exact e5
      · exfalso
        have e9 : gX 26 j = 9 := by simp [gX, j4, j5]
        rw [e9] at u
        exact absurd u (by decide)
  · by_cases v2 : k = 27
    · rw [v2] at u
      exact absurd u (by simp [gX])
    · exact congrFun (e k (by simp; omega)) j
theorem c9_19 : ∀ t, [1, 9].contains t = false → [9].contains t = false := fun t h => by
  simp only [List.contains_cons, Bool.or_eq_false_iff] at h ⊢
  exact ⟨h.2.1, rfl⟩
theorem c1_9 : ∀ t, [1, 9].contains t = false → [1].contains t = false := fun t h => by
  simp only [List.contains_cons, Bool.or_eq_false_iff] at h ⊢
  exact ⟨h.1, rfl⟩
theorem c19_129 : ∀ t, [1, 2, 9].contains t = false → [1, 9].contains t = false := fun t h => by
  simp only [List.contains_cons, Bool.or_eq_false_iff] at h ⊢
  exact ⟨h.1, h.2.2.1, rfl⟩
theorem raceX_t {G : Hp} {law course year shoe day : Int} : ∀ (n r : Nat) (z : Int) (g x : Hp), raceX G law course year shoe day n r z g x → tX [1, 9] g x
  | 0, r, z, g, x, h => by
    have h : x = g := h
    rw [h]
    exact tX.rf
  | n + 1, r, z, g, x, h => by
    obtain ⟨g1, g2, w, C, q⟩ := h
    exact ((w.t.up c9_19).tr (C.tX.up c1_9)).tr (raceX_t n _ _ _ _ q)
theorem raceM_t {G : Hp} {law course year shoe day : Int} : ∀ (n r : Nat) (z : Int) (g x : Hp), raceM G law course year shoe day n r z g x → tM [1, 9] g x
  | 0, r, z, g, x, h => by
    have h : x = g := h
    rw [h]
    exact tM.rf
  | n + 1, r, z, g, x, h => by
    obtain ⟨g1, w, q⟩ := h
    exact ((tM.scr w rfl).tr ((cmM_t _ _ _ _ _).up c1_9)).tr (raceM_t n _ _ _ _ q)
theorem race_sim {G M : Hp} {law course year shoe day : Int} (RB : RlB G M) (ey : G 0 10 = M 57 17) (h0 : 0 ≤ law) (QL : RlL G M law.toNat) (qc : 0 ≤ course ∧ course < G 10 1) (qy : 0 ≤ year ∧ year ≤ 99) (qs : 0 ≤ shoe ∧ shoe < G 6 3) : ∀ (n r : Nat) (z : Int) (g h x y : Hp), (r : Int) + n = G 1 4 → RlB g h → RlC (g 12 10) (g 6 3) g h → g 12 10 + n ≤ 120 → g 1 4 = G 1 4 → g 10 1 = G 10 1 → g 6 3 = G 6 3 → raceX G law course year shoe day n r z g x → raceM M law course year shoe day n r z h y → RlB x y ∧ RlC (x 12 10) (x 6 3) x y
  | 0, r, z, g, h, x, y, _, R, Q, _, _, _, _, hx, hy => by
    have hx : x = g := hx
    have hy : y = h := hy
    rw [hx, hy]
    exact ⟨R, Q⟩
  | n + 1, r, z, g, h, x, y, hr, R, Q, hn, e1, e2, e3, hx, hy => by
    obtain ⟨g1, g2, w, C, hx⟩ := hx
    obtain ⟨h1, w2, hy⟩ := hy
    have tx := w.t
    have ty : tM [9] h h1 := tM.scr w2 rfl
    have R1 := R.fr (tx.s rfl) (ty.s rfl)
    have f12 : g1 12 10 = g 12 10 := tx.s (t := 1) rfl 12 10 (by decide) rfl
    have f6 : g1 6 3 = g 6 3 := tx.s (t := 1) rfl 6 3 (by decide) rfl
    have f1 : g1 1 4 = g 1 4 := tx.s (t := 1) rfl 1 4 (by decide) rfl
    have f10 : g1 10 1 = g 10 1 := tx.s (t := 1) rfl 10 1 (by decide) rfl
    have Q1 : RlC (g1 12 10) (g1 6 3) g1 h1 := by
      rw [f12, f6]
      exact Q.fr (tx.s rfl) (ty.s rfl)
    rw [← rt_eq RB h0 QL, ← rs_eq RB ey h0 QL] at hy
    have wo := wornX_or G law shoe year r (drF z)
    have rs : -1 ≤ rsX2 G law shoe year r z ∧ rsX2 G law shoe year r z < G 6 3 := by
      unfold rsX2
      split <;> omega
    have n0 := R.ix.2.2.2.1
    have bc := RlBC.come R1 Q1 (by omega) C (by omega) (by omega) qy (tmF_in _ _) (by omega)
    have cn := C.ns
    exact race_sim RB ey h0 QL qc qy qs n (r + 1) _ g2 _ x y (by push_cast at hr ⊢; omega) bc.1 bc.2 (by push_cast at hn; omega) (by omega) (by omega) (by omega) hx hy
theorem sim_race {K : KT} {d : Nat} {h : Hp} {a b c e : Int} (hd : 130 ≤ d) (H : HOK h) (R : RLL h h) (q1 : inI a) (q2 : inI b) (q3 : inI c) (q4 : inI e) : SIMC K yX11_race cX11_race 14 yX12_race cX12_race 11 (some .int) vI d [vR 0, vI a, vI b, vI c, vI e] [vR 57, vI a, vI b, vI c, vI e] h := by
  have ix := R.b.ix
  obtain ⟨p1, p2, p3, p4, p5, p6, p7, p8, p9⟩ := R.d
  have m1 := c_X11_race (K := K) (dep := d) (h := h) (a := a) (b := b) (c := c) (d := e) (by omega) ix R.b.p1 R.b.p2 p7 (fun l hl => ⟨(p9 l hl).1, (p9 l hl).2.1⟩) q1 q2 q3 q4
  have okx : ∀ x : Hp, RLL h x → ∀ l : Nat, (l : Int) < x 57 30 → okL x l := fun x r l hl => by
    obtain ⟨p1, p2, p3, p4, p5, p6, p7, p8, p9⟩ := r.d
    have q := p9 l (by omega)
    have b0 := p8 l (by omega)
    have b1 := p8 (l + 1) (by push_cast; omega)
    unfold okL
    simp only [Int.toNat_natCast, show ((l : Int) + 1).toNat = l + 1 by omega]
    refine ⟨b0.1, q.2.2.1, ?_, q.2.2.2.1, q.2.2.2.2.1⟩
    have := b1.2
    push_cast at this
    omega
  have m2 := fun (x : Hp) (r : RLL h x) => c_X12_race (K := K) (dep := d) (h := x) (a := a) (b := b) (c := c) (d := e) (by omega) r.b.im (by have := r.d.2.2.2.2.1; omega) (okx x r) q1 q2 q3 q4
  have eq : ∀ x : Hp, RLL h x → x 57 30 = h 26 5 ∧ x 57 15 = h 10 1 ∧ x 57 14 = h 6 3 ∧ x 64 = h 9 ∧ x 57 16 = h 12 10 ∧ x 57 13 = h 1 4 := fun x r => ⟨r.d.2.2.2.2.1.symm, r.b.2.2.1.1.symm, r.b.2.1.1.symm, r.b.2.1.2.2.2.symm, r.b.2.2.2.1.1.symm, r.b.1.1.symm⟩
  by_cases z : ¬ (rcOK (h 26 5) (h 10 1) (h 6 3) (h 9) a b c)
  · rw [if_pos z] at m1
    have m3 := m2 h R
    obtain ⟨e1, e2, e3, e4, e5, e6⟩ := eq h R
    rw [e1, e2, e3, e4, if_pos z] at m3
    exact SIMC.idp R m1 (fun x f => f.elim (fun w => w.2) (fun w => absurd w.1 z)) m3 (fun x f => f.elim (fun w => w.2) (fun w => absurd w.1 z))
  · rw [if_neg z] at m1
    by_cases y : 120 < h 12 10 + h 1 4
    · rw [if_pos y] at m1
      have m3 := m2 h R
      obtain ⟨e1, e2, e3, e4, e5, e6⟩ := eq h R
      rw [e1, e2, e3, e4, e5, e6, if_neg z, if_pos y] at m3
      exact SIMC.idp R m1 (fun x f => f.elim (fun w => w.2) (fun w => absurd w.2.1 (by omega))) m3 (fun x f => f.elim (fun w => w.2) (fun w => absurd w.2.1 (by omega)))
    · rw [if_neg y] at m1
      have zz : rcOK (h 26 5) (h 10 1) (h 6 3) (h 9) a b c := Decidable.not_not.mp z
      have rx : ∀ x, ((¬ (rcOK (h 26 5) (h 10 1) (h 6 3) (h 9) a b c) ∨ 120 < h 12 10 + h 1 4) ∧ x = h) ∨ ((rcOK (h 26 5) (h 10 1) (h 6 3) (h 9) a b c) ∧ h 12 10 + h 1 4 ≤ 120 ∧ raceX h (a.tdiv 10) (a.tmod 10) (b.tdiv 10) (b.tmod 10) c (h 1 4).toNat 0 e h x) → raceX h (a.tdiv 10) (a.tmod 10) (b.tdiv 10) (b.tmod 10) c (h 1 4).toNat 0 e h x := fun x f => f.elim (fun w => w.1.elim (fun u => absurd u z) (fun u => absurd u y)) (fun w => w.2.2)
      refine SIMC.mk [1, 2, 9] R m1 (fun x f => (raceX_t _ _ _ _ _ (rx x f)).up c19_129) (fun x f hx r => ?_)
      have m3 := m2 x r
      obtain ⟨e1, e2, e3, e4, e5, e6⟩ := eq x r
      rw [e1, e2, e3, e4, e5, e6, if_neg z, if_neg y] at m3
      refine ⟨_, m3, fun x2 f2 => ?_⟩
      have rm : raceM x (a.tdiv 10) (a.tmod 10) (b.tdiv 10) (b.tmod 10) c (h 1 4).toNat 0 e x x2 := f2.elim (fun w => w.1.elim (fun u => absurd u z) (fun u => absurd u y)) (fun w => w.2.2)
      obtain ⟨z1, z2, z3, z4, z5, z6, z7, z8⟩ := zz
      have d1 := tdiv_le (a := a) (b := 10) z1 (by decide)
      have n1 := ix.1.1
      have s := race_sim r.b r.1.1 d1.1 (r.d.2.2.2.2.2.2.2.2 (a.tdiv 10).toNat (by omega)) z4 z5 z6 (h 1 4).toNat 0 e h x x x2 (by omega) r.b r.c (by omega) rfl rfl rfl (rx x f) rm
      exact ⟨(raceM_t _ _ _ _ _ rm).up c19_129, RLp.bc s.1 s.2⟩
