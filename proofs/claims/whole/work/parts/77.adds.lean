/-! one call of both: runner, shoe, course, eyes, point, body, trace of acts -/
theorem SIMC.id {K : KT} {y1 : MethodName} {c1 : ByteArray} {n1 : Nat} {y2 : MethodName} {c2 : ByteArray} {n2 : Nat} {rt : Option FieldType} {T : Int → AV} {d : Nat} {as1 as2 : List AV} {h : Hp} {v : Int} (R : RLL h h) (m1 : AM K y1 c1 n1 rt d as1 h (some (T v)) h) (m2 : AM K y2 c2 n2 rt d as2 h (some (T v)) h) : SIMC K y1 c1 n1 y2 c2 n2 rt T d as1 as2 h :=
  ⟨v, _, m1, fun x f _ => ⟨fun x2 => h = x2, by rw [← f]; exact m2, fun x2 f2 => by rw [← f2]; exact R⟩⟩
theorem RLp.bc {g h : Hp} (b : RlB g h) (c : RlC (g 12 10) (g 6 3) g h) : RLp [1, 2, 9] g h := ⟨fun z => absurd z (by decide), fun _ => b, fun _ => c, fun z => absurd z (by decide), fun z => absurd z (by decide), fun z => absurd z (by decide), fun z => absurd z (by decide)⟩
theorem RLp.a {g h : Hp} (b : RlA g h) : RLp [0] g h := ⟨fun _ => b, fun z => absurd z (by decide), fun z => absurd z (by decide), fun z => absurd z (by decide), fun z => absurd z (by decide), fun z => absurd z (by decide), fun z => absurd z (by decide)⟩
theorem RLp.d {g h : Hp} (b : RlD g h) : RLp [3, 9] g h := ⟨fun z => absurd z (by decide), fun z => absurd z (by decide), fun z => absurd z (by decide), fun _ => b, fun z => absurd z (by decide), fun z => absurd z (by decide), fun z => absurd z (by decide)⟩
theorem RLp.e {g h : Hp} (b : RlE g h) : RLp [4] g h := ⟨fun z => absurd z (by decide), fun z => absurd z (by decide), fun z => absurd z (by decide), fun z => absurd z (by decide), fun _ => b, fun z => absurd z (by decide), fun z => absurd z (by decide)⟩
theorem RLp.fg {g h : Hp} (b : RlF g h) (c : RlG (g 43 2) g h) : RLp [5, 6] g h := ⟨fun z => absurd z (by decide), fun z => absurd z (by decide), fun z => absurd z (by decide), fun z => absurd z (by decide), fun z => absurd z (by decide), fun _ => b, fun _ => c⟩
theorem RLp.gg {g h : Hp} (c : RlG (g 43 2) g h) : RLp [6, 9] g h := ⟨fun z => absurd z (by decide), fun z => absurd z (by decide), fun z => absurd z (by decide), fun z => absurd z (by decide), fun z => absurd z (by decide), fun z => absurd z (by decide), fun _ => c⟩
theorem tX.up {ts us : List Nat} {g g' : Hp} (e : tX ts g g') (h : ∀ t, us.contains t = false → ts.contains t = false) : tX us g g' := ⟨e.1, fun k j hk z => e.2 k j hk (h _ z)⟩
theorem tM.up {ts us : List Nat} {g g' : Hp} (e : tM ts g g') (h : ∀ t, us.contains t = false → ts.contains t = false) : tM us g g' := ⟨e.1, fun k j hk z => e.2 k j hk (h _ z)⟩
theorem c1_129 : ∀ t, [1, 2, 9].contains t = false → [1].contains t = false := fun t h => by
  simp only [List.contains_cons, Bool.or_eq_false_iff] at h ⊢
  exact ⟨h.1, rfl⟩
theorem RlC.rows {n ns : Int} {h x x2 : Hp} (R : RlC n ns h x) (a : tX [1] h x) (b : tM [1] x x2) : RlC n ns x x2 := R.fr (a.s rfl) (b.s rfl)
theorem sim_runner {K : KT} {d : Nat} {h : Hp} {a b : Int} (hd : 130 ≤ d) (H : HOK h) (R : RLL h h) (q1 : inI a) (q2 : inI b) : SIMC K yX11_runner cX11_runner 3 yX12_runner cX12_runner 3 (some .int) vI d [vR 0, vI a, vI b] [vR 57, vI a, vI b] h := by
  have n1 := R.b.ix.1.1
  have n3 := R.b.ix.1.2.1
  have n2 := R.b.1.1
  have m1 := c_X11_runner (K := K) (dep := d) (h := h) (by omega) n1 q1 q2
  by_cases z : ¬ ((600 ≤ a ∧ a ≤ 9999) ∧ (0 ≤ b ∧ b ≤ 100999) ∧ b.tmod 10 ≤ 1)
  · rw [if_pos z, if_pos z] at m1
    have m2 := c_X12_runner (K := K) (dep := d) (h := h) (by omega) (by omega) q1 q2
    rw [if_pos z, if_pos z] at m2
    exact SIMC.id R m1 m2
  · rw [if_neg z, if_neg z] at m1
    by_cases y : 20 ≤ h 1 4
    · rw [if_pos y, if_pos y] at m1
      have m2 := c_X12_runner (K := K) (dep := d) (h := h) (by omega) (by omega) q1 q2
      rw [if_neg z, if_neg z, if_pos (show h 57 13 = 20 by omega), if_pos (show h 57 13 = 20 by omega)] at m2
      exact SIMC.id R m1 m2
    · rw [if_neg y, if_neg y] at m1
      have t1 : ∀ x, (hset (hset (hset (hset (hset h 2 (h 1 4).toNat a) 3 (h 1 4).toNat (b.tdiv 1000 - 50)) 4 (h 1 4).toNat ((b.tdiv 10).tmod 100)) 5 (h 1 4).toNat (b.tmod 10)) 1 4 (h 1 4 + 1)) = x → tX [1] h x := fun x f => by
        rw [← f]
        exact (((((tX.rf.st (by decide) rfl).st (by decide) rfl).st (by decide) rfl).st (by decide) rfl).st (by decide) rfl)
      refine SIMC.mk [1, 2, 9] R m1 (fun x f => (t1 x f).up c1_129) (fun x f hx r => ?_)
      obtain ⟨⟨a1, a2, a3, a4, a5⟩, ⟨b1, b2', b3, b4⟩, ⟨c1, c2⟩, ⟨d1, d2, d3, d4, d5, d6⟩, ix, k1, k2⟩ := r.b
      have m2 := c_X12_runner (K := K) (dep := d) (h := x) (by omega) (by omega) q1 q2
      rw [if_neg z, if_neg z, if_neg (show ¬ x 57 13 = 20 by omega), if_neg (show ¬ x 57 13 = 20 by omega), ← a1] at m2
      refine ⟨_, m2, fun x2 f2 => ?_⟩
      have t2 : tM [1] x x2 := by
        rw [← f2]
        exact (((((tM.rf.st (by decide) rfl).st (by decide) rfl).st (by decide) rfl).st (by decide) rfl).st (by decide) rfl)
      refine ⟨t2.up c1_129, RLp.bc ?_ ?_⟩
      · have u1 : x 1 4 = h 1 4 + 1 := by rw [← f]; simp [hset_app]
        have u6 : x 6 3 = h 6 3 := by rw [← f]; simp [hset_app]
        have u10 : x 10 1 = h 10 1 := by rw [← f]; simp [hset_app]
        have u12 : x 12 10 = h 12 10 := by rw [← f]; simp [hset_app]
        have u2 : x 2 = upR (h 2) (h 1 4).toNat a := by rw [← f]; funext j; simp [hset_app, upR]
        have u3 : x 3 = upR (h 3) (h 1 4).toNat (b.tdiv 1000 - 50) := by rw [← f]; funext j; simp [hset_app, upR]
        have u4 : x 4 = upR (h 4) (h 1 4).toNat ((b.tdiv 10).tmod 100) := by rw [← f]; funext j; simp [hset_app, upR]
        have u5 : x 5 = upR (h 5) (h 1 4).toNat (b.tmod 10) := by rw [← f]; funext j; simp [hset_app, upR]
        have u7 : x 7 = h 7 := by rw [← f]; funext j; simp [hset_app]
        have u8 : x 8 = h 8 := by rw [← f]; funext j; simp [hset_app]
        have u9 : x 9 = h 9 := by rw [← f]; funext j; simp [hset_app]
        have u11 : x 11 = h 11 := by rw [← f]; funext j; simp [hset_app]
        have u13 : x 13 = h 13 := by rw [← f]; funext j; simp [hset_app]
        have u14 : x 14 = h 14 := by rw [← f]; funext j; simp [hset_app]
        have u15 : x 15 = h 15 := by rw [← f]; funext j; simp [hset_app]
        have u16 : x 16 = h 16 := by rw [← f]; funext j; simp [hset_app]
        have u17 : x 17 = h 17 := by rw [← f]; funext j; simp [hset_app]
        have u18 : x 18 = h 18 := by rw [← f]; funext j; simp [hset_app]
        have u19 : x 19 = h 19 := by rw [← f]; funext j; simp [hset_app]
        have y13 : x2 57 13 = h 1 4 + 1 := by rw [← f2]; simp [hset_app]
        have y14 : x2 57 14 = x 57 14 := by rw [← f2]; simp [hset_app]
        have y15 : x2 57 15 = x 57 15 := by rw [← f2]; simp [hset_app]
        have y16 : x2 57 16 = x 57 16 := by rw [← f2]; simp [hset_app]
        have y58 : x2 58 = upR (x 58) (h 1 4).toNat a := by rw [← f2]; funext j; simp [hset_app, upR]
        have y59 : x2 59 = upR (x 59) (h 1 4).toNat (b.tdiv 1000 - 50) := by rw [← f2]; funext j; simp [hset_app, upR]
        have y60 : x2 60 = upR (x 60) (h 1 4).toNat ((b.tdiv 10).tmod 100) := by rw [← f2]; funext j; simp [hset_app, upR]
        have y61 : x2 61 = upR (x 61) (h 1 4).toNat (b.tmod 10) := by rw [← f2]; funext j; simp [hset_app, upR]
        have y62 : x2 62 = x 62 := by rw [← f2]; funext j; simp [hset_app]
        have y63 : x2 63 = x 63 := by rw [← f2]; funext j; simp [hset_app]
        have y64 : x2 64 = x 64 := by rw [← f2]; funext j; simp [hset_app]
        have y65 : x2 65 = x 65 := by rw [← f2]; funext j; simp [hset_app]
        have y66 : x2 66 = x 66 := by rw [← f2]; funext j; simp [hset_app]
        have y67 : x2 67 = x 67 := by rw [← f2]; funext j; simp [hset_app]
        have y68 : x2 68 = x 68 := by rw [← f2]; funext j; simp [hset_app]
        have y69 : x2 69 = x 69 := by rw [← f2]; funext j; simp [hset_app]
        have y70 : x2 70 = x 70 := by rw [← f2]; funext j; simp [hset_app]
        unfold RlB IXa
        rw [u1, u6, u10, u12, u2, u3, u4, u5, u7, u8, u9, u11, u13, u14, u15, u16, u17, u18, u19, y13, y14, y15, y16, y58, y59, y60, y61, y62, y63, y64, y65, y66, y67, y68, y69, y70]
        obtain ⟨i1, i2, i3, i4⟩ := ix
        refine ⟨⟨rfl, by rw [a2], by rw [a3], by rw [a4], by rw [a5]⟩, ⟨b1, b2', b3, b4⟩, ⟨c1, c2⟩, ⟨d1, d2, d3, d4, d5, d6⟩, ⟨⟨by omega, by omega, fun q hq => ?_⟩, i2, i3, ⟨i4.1, i4.2.1, fun q hq => ?_⟩⟩, k1, k2⟩
        · have t1 := tdiv_le (a := b) (b := 1000) (by omega) (by decide)
          have t2 := tdiv_le (a := b) (b := 10) (by omega) (by decide)
          have t3 := tmod_bounds (a := b.tdiv 10) (M := 100) (by decide)
          have t4 := tmod_bounds (a := b) (M := 10) (by decide)
          have t6 := Int.tmod_nonneg 100 (show 0 ≤ b.tdiv 10 by omega)
          have t7 := Int.tmod_nonneg 10 (show 0 ≤ b by omega)
          have t5 : b.tdiv 1000 ≤ 100 := by rw [Int.tdiv_eq_ediv_of_nonneg (by omega)]; omega
          unfold upR
          by_cases w : q = (h 1 4).toNat
          · simp only [if_pos w]
            omega
          · simp only [if_neg w]
            exact i1.2.2 q (by omega)
        · have := i4.2.2 q hq
          omega
      · have e1 : x 12 10 = h 12 10 := by rw [← f]; simp [hset_app]
        have e2 : x 6 3 = h 6 3 := by rw [← f]; simp [hset_app]
        rw [e1, e2]
        exact (r.c.rows (t1 x f) t2).up (Int.le_refl _) (by omega)
theorem sim_shoe {K : KT} {d : Nat} {h : Hp} {a b c : Int} (hd : 130 ≤ d) (H : HOK h) (R : RLL h h) (q1 : inI a) (q2 : inI b) (q3 : inI c) : SIMC K yX11_shoe cX11_shoe 4 yX12_shoe cX12_shoe 4 (some .int) vI d [vR 0, vI a, vI b, vI c] [vR 57, vI a, vI b, vI c] h := by
  have n1 := R.b.ix.2.1.1
  have n3 := R.b.ix.2.1.2.1
  have n2 := R.b.2.1.1
  have m1 := c_X11_shoe (K := K) (dep := d) (h := h) (by omega) (by omega) q1 q2 q3
  by_cases z : ¬ ((1 ≤ a ∧ a ≤ 99) ∧ (-99 ≤ b ∧ b ≤ 99) ∧ 0 ≤ c ∧ c ≤ 99)
  · rw [if_pos z, if_pos z] at m1
    have m2 := c_X12_shoe (K := K) (dep := d) (h := h) (by omega) (by omega) q1 q2 q3
    rw [if_pos z, if_pos z] at m2
    exact SIMC.id R m1 m2
  · rw [if_neg z, if_neg z] at m1
    by_cases y : 6 ≤ h 6 3
    · rw [if_pos y, if_pos y] at m1
      have m2 := c_X12_shoe (K := K) (dep := d) (h := h) (by omega) (by omega) q1 q2 q3
      rw [if_neg z, if_neg z, if_pos (show h 57 14 = 6 by omega), if_pos (show h 57 14 = 6 by omega)] at m2
      exact SIMC.id R m1 m2
    · rw [if_neg y, if_neg y] at m1
      have t1 : ∀ x, (hset (hset (hset (hset h 7 (h 6 3).toNat a) 8 (h 6 3).toNat b) 9 (h 6 3).toNat c) 6 3 (h 6 3 + 1)) = x → tX [1] h x := fun x f => by
        rw [← f]
        exact ((((tX.rf.st (by decide) rfl).st (by decide) rfl).st (by decide) rfl).st (by decide) rfl)
      refine SIMC.mk [1, 2, 9] R m1 (fun x f => (t1 x f).up c1_129) (fun x f hx r => ?_)
      obtain ⟨⟨a1, a2, a3, a4, a5⟩, ⟨b1, b2', b3, b4⟩, ⟨c1, c2⟩, ⟨d1, d2, d3, d4, d5, d6⟩, ix, k1, k2⟩ := r.b
      have m2 := c_X12_shoe (K := K) (dep := d) (h := x) (by omega) (by omega) q1 q2 q3
      rw [if_neg z, if_neg z, if_neg (show ¬ x 57 14 = 6 by omega), if_neg (show ¬ x 57 14 = 6 by omega), ← b1] at m2
      refine ⟨_, m2, fun x2 f2 => ?_⟩
      have t2 : tM [1] x x2 := by
        rw [← f2]
        exact ((((tM.rf.st (by decide) rfl).st (by decide) rfl).st (by decide) rfl).st (by decide) rfl)
      refine ⟨t2.up c1_129, RLp.bc ?_ ?_⟩
      · have u1 : x 1 4 = h 1 4 := by rw [← f]; simp [hset_app]
        have u6 : x 6 3 = h 6 3 + 1 := by rw [← f]; simp [hset_app]
        have u10 : x 10 1 = h 10 1 := by rw [← f]; simp [hset_app]
        have u12 : x 12 10 = h 12 10 := by rw [← f]; simp [hset_app]
        have u2 : x 2 = h 2 := by rw [← f]; funext j; simp [hset_app]
        have u3 : x 3 = h 3 := by rw [← f]; funext j; simp [hset_app]
        have u4 : x 4 = h 4 := by rw [← f]; funext j; simp [hset_app]
        have u5 : x 5 = h 5 := by rw [← f]; funext j; simp [hset_app]
        have u7 : x 7 = upR (h 7) (h 6 3).toNat a := by rw [← f]; funext j; simp [hset_app, upR]
        have u8 : x 8 = upR (h 8) (h 6 3).toNat b := by rw [← f]; funext j; simp [hset_app, upR]
        have u9 : x 9 = upR (h 9) (h 6 3).toNat c := by rw [← f]; funext j; simp [hset_app, upR]
        have u11 : x 11 = h 11 := by rw [← f]; funext j; simp [hset_app]
        have u13 : x 13 = h 13 := by rw [← f]; funext j; simp [hset_app]
        have u14 : x 14 = h 14 := by rw [← f]; funext j; simp [hset_app]
        have u15 : x 15 = h 15 := by rw [← f]; funext j; simp [hset_app]
        have u16 : x 16 = h 16 := by rw [← f]; funext j; simp [hset_app]
        have u17 : x 17 = h 17 := by rw [← f]; funext j; simp [hset_app]
        have u18 : x 18 = h 18 := by rw [← f]; funext j; simp [hset_app]
        have u19 : x 19 = h 19 := by rw [← f]; funext j; simp [hset_app]
        have y13 : x2 57 13 = x 57 13 := by rw [← f2]; simp [hset_app]
        have y14 : x2 57 14 = h 6 3 + 1 := by rw [← f2]; simp [hset_app]
        have y15 : x2 57 15 = x 57 15 := by rw [← f2]; simp [hset_app]
        have y16 : x2 57 16 = x 57 16 := by rw [← f2]; simp [hset_app]
        have y58 : x2 58 = x 58 := by rw [← f2]; funext j; simp [hset_app]
        have y59 : x2 59 = x 59 := by rw [← f2]; funext j; simp [hset_app]
        have y60 : x2 60 = x 60 := by rw [← f2]; funext j; simp [hset_app]
        have y61 : x2 61 = x 61 := by rw [← f2]; funext j; simp [hset_app]
        have y62 : x2 62 = upR (x 62) (h 6 3).toNat a := by rw [← f2]; funext j; simp [hset_app, upR]
        have y63 : x2 63 = upR (x 63) (h 6 3).toNat b := by rw [← f2]; funext j; simp [hset_app, upR]
        have y64 : x2 64 = upR (x 64) (h 6 3).toNat c := by rw [← f2]; funext j; simp [hset_app, upR]
        have y65 : x2 65 = x 65 := by rw [← f2]; funext j; simp [hset_app]
        have y66 : x2 66 = x 66 := by rw [← f2]; funext j; simp [hset_app]
        have y67 : x2 67 = x 67 := by rw [← f2]; funext j; simp [hset_app]
        have y68 : x2 68 = x 68 := by rw [← f2]; funext j; simp [hset_app]
        have y69 : x2 69 = x 69 := by rw [← f2]; funext j; simp [hset_app]
        have y70 : x2 70 = x 70 := by rw [← f2]; funext j; simp [hset_app]
        unfold RlB IXa
        rw [u1, u6, u10, u12, u2, u3, u4, u5, u7, u8, u9, u11, u13, u14, u15, u16, u17, u18, u19, y13, y14, y15, y16, y58, y59, y60, y61, y62, y63, y64, y65, y66, y67, y68, y69, y70]
        obtain ⟨i1, i2, i3, i4⟩ := ix
        refine ⟨⟨a1, a2, a3, a4, a5⟩, ⟨rfl, by rw [b2'], by rw [b3], by rw [b4]⟩, ⟨c1, c2⟩, ⟨d1, d2, d3, d4, d5, d6⟩, ⟨i1, ⟨by omega, by omega, fun q hq => ?_⟩, i3, ⟨i4.1, i4.2.1, fun q hq => ?_⟩⟩, k1, k2⟩
        · unfold upR
          by_cases w : q = (h 6 3).toNat
          · simp only [if_pos w]
            omega
          · simp only [if_neg w]
            exact i2.2.2 q (by omega)
        · have := i4.2.2 q hq
          omega
      · have e1 : x 12 10 = h 12 10 := by rw [← f]; simp [hset_app]
        have e2 : x 6 3 = h 6 3 + 1 := by rw [← f]; simp [hset_app]
        rw [e1, e2]
        exact (r.c.rows (t1 x f) t2).up (Int.le_refl _) (by omega)
theorem sim_course {K : KT} {d : Nat} {h : Hp} {a : Int} (hd : 130 ≤ d) (H : HOK h) (R : RLL h h) (q1 : inI a) : SIMC K yX11_course cX11_course 2 yX12_course cX12_course 2 (some .int) vI d [vR 0, vI a] [vR 57, vI a] h := by
  have n1 := R.b.ix.2.2.1.1
  have n3 := R.b.ix.2.2.1.2.1
  have n2 := R.b.2.2.1.1
  have m1 := c_X11_course (K := K) (dep := d) (h := h) (by omega) (by omega) q1
  by_cases z : ¬ (500 ≤ a ∧ a ≤ 2000)
  · rw [if_pos z, if_pos z] at m1
    have m2 := c_X12_course (K := K) (dep := d) (h := h) (by omega) (by omega) q1
    rw [if_pos z, if_pos z] at m2
    exact SIMC.id R m1 m2
  · rw [if_neg z, if_neg z] at m1
    by_cases y : 5 ≤ h 10 1
    · rw [if_pos y, if_pos y] at m1
      have m2 := c_X12_course (K := K) (dep := d) (h := h) (by omega) (by omega) q1
      rw [if_neg z, if_neg z, if_pos (show h 57 15 = 5 by omega), if_pos (show h 57 15 = 5 by omega)] at m2
      exact SIMC.id R m1 m2
    · rw [if_neg y, if_neg y] at m1
      have t1 : ∀ x, (hset (hset h 11 (h 10 1).toNat a) 10 1 (h 10 1 + 1)) = x → tX [1] h x := fun x f => by
        rw [← f]
        exact ((tX.rf.st (by decide) rfl).st (by decide) rfl)
      refine SIMC.mk [1, 2, 9] R m1 (fun x f => (t1 x f).up c1_129) (fun x f hx r => ?_)
      obtain ⟨⟨a1, a2, a3, a4, a5⟩, ⟨b1, b2', b3, b4⟩, ⟨c1, c2⟩, ⟨d1, d2, d3, d4, d5, d6⟩, ix, k1, k2⟩ := r.b
      have m2 := c_X12_course (K := K) (dep := d) (h := x) (by omega) (by omega) q1
      rw [if_neg z, if_neg z, if_neg (show ¬ x 57 15 = 5 by omega), if_neg (show ¬ x 57 15 = 5 by omega), ← c1] at m2
      refine ⟨_, m2, fun x2 f2 => ?_⟩
      have t2 : tM [1] x x2 := by
        rw [← f2]
        exact ((tM.rf.st (by decide) rfl).st (by decide) rfl)
      refine ⟨t2.up c1_129, RLp.bc ?_ ?_⟩
      · have u1 : x 1 4 = h 1 4 := by rw [← f]; simp [hset_app]
        have u6 : x 6 3 = h 6 3 := by rw [← f]; simp [hset_app]
        have u10 : x 10 1 = h 10 1 + 1 := by rw [← f]; simp [hset_app]
        have u12 : x 12 10 = h 12 10 := by rw [← f]; simp [hset_app]
        have u2 : x 2 = h 2 := by rw [← f]; funext j; simp [hset_app]
        have u3 : x 3 = h 3 := by rw [← f]; funext j; simp [hset_app]
        have u4 : x 4 = h 4 := by rw [← f]; funext j; simp [hset_app]
        have u5 : x 5 = h 5 := by rw [← f]; funext j; simp [hset_app]
        have u7 : x 7 = h 7 := by rw [← f]; funext j; simp [hset_app]
        have u8 : x 8 = h 8 := by rw [← f]; funext j; simp [hset_app]
        have u9 : x 9 = h 9 := by rw [← f]; funext j; simp [hset_app]
        have u11 : x 11 = upR (h 11) (h 10 1).toNat a := by rw [← f]; funext j; simp [hset_app, upR]
        have u13 : x 13 = h 13 := by rw [← f]; funext j; simp [hset_app]
        have u14 : x 14 = h 14 := by rw [← f]; funext j; simp [hset_app]
        have u15 : x 15 = h 15 := by rw [← f]; funext j; simp [hset_app]
        have u16 : x 16 = h 16 := by rw [← f]; funext j; simp [hset_app]
        have u17 : x 17 = h 17 := by rw [← f]; funext j; simp [hset_app]
        have u18 : x 18 = h 18 := by rw [← f]; funext j; simp [hset_app]
        have u19 : x 19 = h 19 := by rw [← f]; funext j; simp [hset_app]
        have y13 : x2 57 13 = x 57 13 := by rw [← f2]; simp [hset_app]
        have y14 : x2 57 14 = x 57 14 := by rw [← f2]; simp [hset_app]
        have y15 : x2 57 15 = h 10 1 + 1 := by rw [← f2]; simp [hset_app]
        have y16 : x2 57 16 = x 57 16 := by rw [← f2]; simp [hset_app]
        have y58 : x2 58 = x 58 := by rw [← f2]; funext j; simp [hset_app]
        have y59 : x2 59 = x 59 := by rw [← f2]; funext j; simp [hset_app]
        have y60 : x2 60 = x 60 := by rw [← f2]; funext j; simp [hset_app]
        have y61 : x2 61 = x 61 := by rw [← f2]; funext j; simp [hset_app]
        have y62 : x2 62 = x 62 := by rw [← f2]; funext j; simp [hset_app]
        have y63 : x2 63 = x 63 := by rw [← f2]; funext j; simp [hset_app]
        have y64 : x2 64 = x 64 := by rw [← f2]; funext j; simp [hset_app]
        have y65 : x2 65 = upR (x 65) (h 10 1).toNat a := by rw [← f2]; funext j; simp [hset_app, upR]
        have y66 : x2 66 = x 66 := by rw [← f2]; funext j; simp [hset_app]
        have y67 : x2 67 = x 67 := by rw [← f2]; funext j; simp [hset_app]
        have y68 : x2 68 = x 68 := by rw [← f2]; funext j; simp [hset_app]
        have y69 : x2 69 = x 69 := by rw [← f2]; funext j; simp [hset_app]
        have y70 : x2 70 = x 70 := by rw [← f2]; funext j; simp [hset_app]
        unfold RlB IXa
        rw [u1, u6, u10, u12, u2, u3, u4, u5, u7, u8, u9, u11, u13, u14, u15, u16, u17, u18, u19, y13, y14, y15, y16, y58, y59, y60, y61, y62, y63, y64, y65, y66, y67, y68, y69, y70]
        obtain ⟨i1, i2, i3, i4⟩ := ix
        refine ⟨⟨a1, a2, a3, a4, a5⟩, ⟨b1, b2', b3, b4⟩, ⟨rfl, by rw [c2]⟩, ⟨d1, d2, d3, d4, d5, d6⟩, ⟨i1, i2, ⟨by omega, by omega, fun q hq => ?_⟩, ⟨i4.1, i4.2.1, fun q hq => ?_⟩⟩, k1, k2⟩
        · unfold upR
          by_cases w : q = (h 10 1).toNat
          · simp only [if_pos w]
            omega
          · simp only [if_neg w]
            exact i3.2.2 q (by omega)
        · have := i4.2.2 q hq
          omega
      · have e1 : x 12 10 = h 12 10 := by rw [← f]; simp [hset_app]
        have e2 : x 6 3 = h 6 3 := by rw [← f]; simp [hset_app]
        rw [e1, e2]
        exact (r.c.rows (t1 x f) t2).up (Int.le_refl _) (by omega)
theorem sim_eyes {K : KT} {d : Nat} {h : Hp} {a : Int} (hd : 130 ≤ d) (H : HOK h) (R : RLL h h) (q1 : inI a) : SIMC K yX11_eyes cX11_eyes 3 yX12_eyes cX12_eyes 3 (some .int) vI d [vR 0, vI a] [vR 57, vI a] h := by
  have m1 := c_X11_eyes (K := K) (dep := d) (h := h) (by omega) q1
  by_cases z : 0 ≤ a ∧ a ≤ 100
  · rw [if_pos z, if_pos z] at m1
    refine SIMC.mk [0] R m1 (fun x f => by rw [← f]; exact tX.rf.st (by decide) rfl) (fun x f hx r => ?_)
    have m2 := c_X12_eyes (K := K) (dep := d) (h := x) (by omega) q1
    rw [if_pos z, if_pos z, ← r.1.1] at m2
    refine ⟨_, m2, fun x2 f2 => ⟨by rw [← f2]; exact tM.rf.st (by decide) rfl, RLp.a ?_⟩⟩
    have e1 : x 0 10 = a := by rw [← f]; simp [hset_app]
    have e2 : x2 57 17 = a := by rw [← f2]; simp [hset_app]
    unfold RlA
    rw [e1, e2]
    exact ⟨rfl, z.1, z.2⟩
  · rw [if_neg z, if_neg z] at m1
    have m2 := c_X12_eyes (K := K) (dep := d) (h := h) (by omega) q1
    rw [if_neg z, if_neg z] at m2
    exact SIMC.id R m1 m2
theorem sim_point {K : KT} {d : Nat} {h : Hp} {a b : Int} (hd : 130 ≤ d) (H : HOK h) (R : RLL h h) (q1 : inI a) (q2 : inI b) : SIMC K yX11_point cX11_point 3 yX12_point cX12_point 3 (some .int) vI d [vR 0, vI a, vI b] [vR 57, vI a, vI b] h := by
  obtain ⟨e1, e2, e3, e4⟩ := R.e
  have m1 := c_X11_point (K := K) (dep := d) (h := h) (by omega) ⟨e4.1, e4.2.1⟩ q1 q2
  have g1 := e4.1
  have g2 := e4.2.1
  by_cases z : ¬ ((0 ≤ a ∧ a ≤ 99) ∧ (0 ≤ b ∧ b ≤ 99) ∧ (h 40 2 = 0 ∨ h 41 (h 40 2 - 1).toNat < a))
  · rw [if_pos z, if_pos z] at m1
    have m2 := c_X12_point (K := K) (dep := d) (h := h) (by omega) (by omega) q1 q2
    rw [← e1, ← e2, if_pos z, if_pos z] at m2
    exact SIMC.id R m1 m2
  · rw [if_neg z, if_neg z] at m1
    by_cases y : 6 ≤ h 40 2
    · rw [if_pos y, if_pos y] at m1
      have m2 := c_X12_point (K := K) (dep := d) (h := h) (by omega) (by omega) q1 q2
      rw [← e1, ← e2, if_neg z, if_neg z, if_pos (show h 40 2 = 6 by omega), if_pos (show h 40 2 = 6 by omega)] at m2
      exact SIMC.id R m1 m2
    · rw [if_neg y, if_neg y] at m1
      refine SIMC.mk [4] R m1 (fun x f => by rw [← f]; exact ((tX.rf.st (by decide) rfl).st (by decide) rfl).st (by decide) rfl) (fun x f hx r => ?_)
      obtain ⟨u1, u2, u3, u4⟩ := r.e
      have m2 := c_X12_point (K := K) (dep := d) (h := x) (by omega) (by omega) q1 q2
      rw [← u1, ← u2, if_neg z, if_neg z, if_neg (show ¬ h 40 2 = 6 by omega), if_neg (show ¬ h 40 2 = 6 by omega)] at m2
      refine ⟨_, m2, fun x2 f2 => ⟨by rw [← f2]; exact ((tM.rf.st (by decide) rfl).st (by decide) rfl).st (by decide) rfl, RLp.e ?_⟩⟩
      have x40 : x 40 2 = h 40 2 + 1 := by rw [← f]; simp [hset_app]
      have x41 : x 41 = upR (h 41) (h 40 2).toNat a := by rw [← f]; funext j; simp [hset_app, upR]
      have x42 : x 42 = upR (h 42) (h 40 2).toNat b := by rw [← f]; funext j; simp [hset_app, upR]
      have y49 : x2 57 49 = h 40 2 + 1 := by rw [← f2]; simp [hset_app]
      have y82 : x2 82 = upR (x 82) (h 40 2).toNat a := by rw [← f2]; funext j; simp [hset_app, upR]
      have y83 : x2 83 = upR (x 83) (h 40 2).toNat b := by rw [← f2]; funext j; simp [hset_app, upR]
      unfold RlE
      rw [x40, x41, x42, y49, y82, y83, ← u2, ← u3]
      obtain ⟨p1, p2, p3, p4⟩ := e4
      refine ⟨rfl, rfl, rfl, by omega, by omega, fun k hk => ?_, fun k hk => ?_⟩
      · unfold upR
        by_cases w : k = (h 40 2).toNat
        · simp only [if_pos w]
          omega
        · simp only [if_neg w]
          exact p3 k (by omega)
      · unfold upR
        rw [if_neg (show ¬ k = (h 40 2).toNat by omega)]
        by_cases w : k + 1 = (h 40 2).toNat
        · rw [if_pos w]
          have e : (h 40 2 - 1).toNat = k := by omega
          rw [e] at z
          omega
        · rw [if_neg w]
          exact p4 k (by omega)
theorem sim_body {K : KT} {d : Nat} {h : Hp} {a : Int} (hd : 130 ≤ d) (H : HOK h) (R : RLL h h) (q1 : inI a) : SIMC K yX11_body cX11_body 2 yX12_body cX12_body 2 (some .int) vI d [vR 0, vI a] [vR 57, vI a] h := by
  obtain ⟨f1, f2', f3, f4, f5, f6, f7, f8⟩ := R.f
  have m1 := c_X11_body (K := K) (dep := d) (h := h) (by omega) f2' q1
  by_cases z : ¬ (0 ≤ a ∧ a ≤ 7)
  · rw [if_pos z, if_pos z] at m1
    have m2 := c_X12_body (K := K) (dep := d) (h := h) (by omega) (by omega) q1
    rw [if_pos z, if_pos z] at m2
    exact SIMC.id R m1 m2
  · rw [if_neg z, if_neg z] at m1
    by_cases y : 50 ≤ h 43 2
    · rw [if_pos y, if_pos y] at m1
      have m2 := c_X12_body (K := K) (dep := d) (h := h) (by omega) (by omega) q1
      rw [if_neg z, if_neg z, if_pos (show h 57 52 = 50 by omega), if_pos (show h 57 52 = 50 by omega)] at m2
      exact SIMC.id R m1 m2
    · rw [if_neg y, if_neg y] at m1
      have t1 : ∀ x, (hset (hset h 44 (h 43 2).toNat a) 43 2 (h 43 2 + 1)) = x → tX [5] h x := fun x f => by
        rw [← f]
        exact (tX.rf.st (by decide) rfl).st (by decide) rfl
      refine SIMC.mk [5, 6] R m1 (fun x f => (t1 x f).up (fun t w => by simp only [List.contains_cons, Bool.or_eq_false_iff] at w ⊢; exact ⟨w.1, rfl⟩)) (fun x f hx r => ?_)
      obtain ⟨u1, u2, u3, u4, u5, u6, u7, u8⟩ := r.f
      have m2 := c_X12_body (K := K) (dep := d) (h := x) (by omega) (by omega) q1
      rw [if_neg z, if_neg z, ← u1, if_neg (show ¬ h 43 2 = 50 by omega), if_neg (show ¬ h 43 2 = 50 by omega)] at m2
      refine ⟨_, m2, fun x2 f2 => ?_⟩
      have t2 : tM [5] x x2 := by
        rw [← f2]
        exact (tM.rf.st (by decide) rfl).st (by decide) rfl
      have x43 : x 43 2 = h 43 2 + 1 := by rw [← f]; simp [hset_app]
      have x433 : x 43 3 = h 43 3 := by rw [← f]; simp [hset_app]
      have x44 : x 44 = upR (h 44) (h 43 2).toNat a := by rw [← f]; funext j; simp [hset_app, upR]
      have x45 : x 45 = h 45 := by rw [← f]; funext j; simp [hset_app]
      have y52 : x2 57 52 = h 43 2 + 1 := by rw [← f2]; simp [hset_app]
      have y53 : x2 57 53 = x 57 53 := by rw [← f2]; simp [hset_app]
      have y84 : x2 84 = upR (x 84) (h 43 2).toNat a := by rw [← f2]; funext j; simp [hset_app, upR]
      have y85 : x2 85 = x 85 := by rw [← f2]; funext j; simp [hset_app]
      refine ⟨t2.up (fun t w => by simp only [List.contains_cons, Bool.or_eq_false_iff] at w ⊢; exact ⟨w.1, rfl⟩), RLp.fg ?_ ?_⟩
      · unfold RlF
        rw [x43, x433, x44, x45, y52, y53, y84, y85, ← u4]
        refine ⟨rfl, by omega, by omega, rfl, fun k hk => ?_, u6, u7, u8⟩
        unfold upR
        by_cases w : k = (h 43 2).toNat
        · simp only [if_pos w]
          omega
        · simp only [if_neg w]
          exact u5 k (by omega)
      · rw [x43]
        exact (r.g.fr ((t1 x f).s rfl) (t2.s rfl)).up (by omega)
