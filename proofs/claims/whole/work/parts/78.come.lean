/-! one call of both: runs come -/
theorem KO.cong {n : Int} {ow ye ow2 ye2 ord : Nat → Int} (H : KO n ow ye ord) (h1 : ∀ r : Nat, (r : Int) < n → ow2 r = ow r) (h2 : ∀ r : Nat, (r : Int) < n → ye2 r = ye r) : KO n ow2 ye2 ord := ⟨H.1, H.2.1, fun i j hij hj => by
  have q := H.2.2 i j hij hj
  have a := H.1 i (by omega)
  have b := H.1 j hj
  simp only [lexP] at q ⊢
  rw [h1 _ (by omega), h1 _ (by omega), h2 _ (by omega), h2 _ (by omega)]
  exact q⟩
theorem upR_lt {row : Nat → Int} {n : Int} {v : Int} {r : Nat} (h : (r : Int) < n) : upR row n.toNat v r = row r := by
  unfold upR
  rw [if_neg (by omega)]
theorem CP.tX {g g' : Hp} {a b c d e : Int} (C : CP g a b c d e g') : tX [1] g g' := tX.ex C.1 (fun k hk => by
  simp only [List.mem_cons, List.not_mem_nil, or_false] at hk
  rcases hk with rfl | rfl | rfl | rfl | rfl | rfl | rfl | rfl <;> exact ⟨by decide, fun _ => rfl⟩)
theorem cmM_t {h : Hp} (a b c d e : Int) : tM [1] h (cmM h a b c d e) := (((((tM.rf.st (by decide) rfl).st (by decide) rfl).st (by decide) rfl).st (by decide) rfl).st (by decide) rfl).st (by decide) rfl
theorem RlB.come {g h g' : Hp} {a b c d e : Int} (R : RlB g h) (hn : g 12 10 < 120) (C : CP g a b c d e g') (ha : 0 ≤ a ∧ a < g 1 4) (hb : 0 ≤ b ∧ b < g 10 1) (hc : 0 ≤ c ∧ c ≤ 99) (hd : 10 ≤ d ∧ d ≤ 29999) (he : -1 ≤ e ∧ e < g 6 3) : RlB g' (cmM h a b c d e) := by
  have ix2 := R.ix.cp hn C ha hb hc hd he
  obtain ⟨r1, r2, r3, r4, r5⟩ := cmM_rows h a b c d e
  have E := cmM_ep h a b c d e
  have nn := cmM_n h a b c d e
  obtain ⟨⟨a1, a2, a3, a4, a5⟩, ⟨b1, b2', b3, b4⟩, ⟨c1, c2⟩, ⟨d1, d2, d3, d4, d5, d6⟩, ix, k1, k2⟩ := R
  obtain ⟨CE, C12, C13, C14, C15, C16, C17, C18, C19⟩ := C
  have q : ∀ k : Nat, k < 12 → g' k = g k := fun k z => CE k (by simp; omega)
  have n0 := ix.2.2.2.1
  have n1 : g' 12 10 = g 12 10 + 1 := by rw [C12 10]; simp [upR]
  have f13 : g' 13 = upR (g 13) (g 12 10).toNat a := funext C13
  have f14 : g' 14 = upR (g 14) (g 12 10).toNat b := funext C14
  have f15 : g' 15 = upR (g 15) (g 12 10).toNat c := funext C15
  have f16 : g' 16 = upR (g 16) (g 12 10).toNat d := funext C16
  have f17 : g' 17 = upR (g 17) (g 12 10).toNat e := funext C17
  have m66 : cmM h a b c d e 66 = upR (h 66) (h 57 16).toNat a := funext r1
  have m67 : cmM h a b c d e 67 = upR (h 67) (h 57 16).toNat b := funext r2
  have m68 : cmM h a b c d e 68 = upR (h 68) (h 57 16).toNat c := funext r3
  have m69 : cmM h a b c d e 69 = upR (h 69) (h 57 16).toNat d := funext r4
  have m70 : cmM h a b c d e 70 = upR (h 70) (h 57 16).toNat e := funext r5
  refine ⟨⟨?_, ?_, ?_, ?_, ?_⟩, ⟨?_, ?_, ?_, ?_⟩, ⟨?_, ?_⟩, ⟨?_, ?_, ?_, ?_, ?_, ?_⟩, ix2, ?_, ?_⟩
  · rw [q 1 (by decide), E 57 13 rfl]; exact a1
  · rw [q 2 (by decide), E.row 58 (fun _ => rfl)]; exact a2
  · rw [q 3 (by decide), E.row 59 (fun _ => rfl)]; exact a3
  · rw [q 4 (by decide), E.row 60 (fun _ => rfl)]; exact a4
  · rw [q 5 (by decide), E.row 61 (fun _ => rfl)]; exact a5
  · rw [q 6 (by decide), E 57 14 rfl]; exact b1
  · rw [q 7 (by decide), E.row 62 (fun _ => rfl)]; exact b2'
  · rw [q 8 (by decide), E.row 63 (fun _ => rfl)]; exact b3
  · rw [q 9 (by decide), E.row 64 (fun _ => rfl)]; exact b4
  · rw [q 10 (by decide), E 57 15 rfl]; exact c1
  · rw [q 11 (by decide), E.row 65 (fun _ => rfl)]; exact c2
  · rw [n1, nn, d1]
  · rw [f13, m66, d1, d2]
  · rw [f14, m67, d1, d3]
  · rw [f15, m68, d1, d4]
  · rw [f16, m69, d1, d5]
  · rw [f17, m70, d1, d6]
  · rw [n1]
    exact KO.ins n0 (k1.cong (fun r hr => by rw [f13]; exact upR_lt hr) (fun r hr => by rw [f15]; exact upR_lt hr)) C18
  · rw [n1]
    exact KO.ins n0 (k2.cong (fun r hr => by rw [f14]; exact upR_lt hr) (fun r hr => by rw [f15]; exact upR_lt hr)) C19
theorem CP.ns {g g' : Hp} {a b c d e : Int} (C : CP g a b c d e g') : g' 6 3 = g 6 3 ∧ g' 1 4 = g 1 4 ∧ g' 10 1 = g 10 1 ∧ g' 12 10 = g 12 10 + 1 := by
  have q : ∀ k : Nat, k < 12 → g' k = g k := fun k z => C.1 k (by simp; omega)
  refine ⟨by rw [q 6 (by decide)], by rw [q 1 (by decide)], by rw [q 10 (by decide)], ?_⟩
  rw [C.2.1 10]
  simp [upR]
/-- runs and changes together, after a run has come -/
theorem RlBC.come {g h g' : Hp} {a b c d e : Int} (R : RlB g h) (Q : RlC (g 12 10) (g 6 3) g h) (hn : g 12 10 < 120) (C : CP g a b c d e g') (ha : 0 ≤ a ∧ a < g 1 4) (hb : 0 ≤ b ∧ b < g 10 1) (hc : 0 ≤ c ∧ c ≤ 99) (hd : 10 ≤ d ∧ d ≤ 29999) (he : -1 ≤ e ∧ e < g 6 3) : RlB g' (cmM h a b c d e) ∧ RlC (g' 12 10) (g' 6 3) g' (cmM h a b c d e) := by
  refine ⟨R.come hn C ha hb hc hd he, ?_⟩
  have n := C.ns
  rw [n.1, n.2.2.2]
  exact (Q.fr (C.tX.s rfl) ((cmM_t a b c d e).s rfl)).up (by omega) (Int.le_refl _)
theorem c1_19 : ∀ t, [1, 2, 9].contains t = false → [1].contains t = false := c1_129
theorem SIMC.idp {K : KT} {y1 : MethodName} {c1 : ByteArray} {n1 : Nat} {y2 : MethodName} {c2 : ByteArray} {n2 : Nat} {rt : Option FieldType} {T : Int → AV} {d : Nat} {as1 as2 : List AV} {h : Hp} {v : Int} {F1 F2 : Hp → Prop} (R : RLL h h) (m1 : AMp K y1 c1 n1 rt d as1 h (some (T v)) F1) (e1 : ∀ x, F1 x → x = h) (m2 : AMp K y2 c2 n2 rt d as2 h (some (T v)) F2) (e2 : ∀ x, F2 x → x = h) : SIMC K y1 c1 n1 y2 c2 n2 rt T d as1 as2 h :=
  ⟨v, F1, m1, fun x f _ => ⟨F2, by rw [e1 x f]; exact m2, fun x2 f2 => by rw [e2 x2 f2]; exact R⟩⟩
theorem sim_ran {K : KT} {d : Nat} {h : Hp} {a b c : Int} (hd : 130 ≤ d) (H : HOK h) (R : RLL h h) (q1 : inI a) (q2 : inI b) (q3 : inI c) : SIMC K yX11_ran cX11_ran 4 yX12_ran cX12_ran 4 (some .int) vI d [vR 0, vI a, vI b, vI c] [vR 57, vI a, vI b, vI c] h := by
  have n0 := R.b.ix.2.2.2.1
  have n1 := R.b.ix.2.2.2.2.1
  have m1 := c_X11_ran (K := K) (dep := d) (h := h) (by omega) n0 R.b.p1 R.b.p2 q1 q2 q3
  have d1 := R.b.2.2.2.1.1
  by_cases z : ¬ ranP (h 1 4) (h 10 1) (h 6 3) a b c
  · rw [if_pos z] at m1
    have m2 := c_X12_ran (K := K) (dep := d) (h := h) (by omega) (by omega) q1 q2 q3
    rw [← R.b.1.1, ← R.b.2.2.1.1, ← R.b.2.1.1, if_pos z, if_pos z] at m2
    exact SIMC.idp R m1 (fun x f => f.elim (fun w => w.2) (fun w => absurd w.1 z)) m2 (fun x f => f.symm)
  · rw [if_neg z] at m1
    by_cases y : 120 ≤ h 12 10
    · rw [if_pos y] at m1
      have m2 := c_X12_ran (K := K) (dep := d) (h := h) (by omega) (by omega) q1 q2 q3
      rw [← R.b.1.1, ← R.b.2.2.1.1, ← R.b.2.1.1, ← d1, if_neg z, if_neg z, if_pos (show h 12 10 = 120 by omega), if_pos (show h 12 10 = 120 by omega)] at m2
      exact SIMC.idp R m1 (fun x f => f.elim (fun w => w.2) (fun w => by omega)) m2 (fun x f => f.symm)
    · rw [if_neg y] at m1
      have cp : ∀ x, ((¬ ranP (h 1 4) (h 10 1) (h 6 3) a b c ∨ 120 ≤ h 12 10) ∧ x = h) ∨ (ranP (h 1 4) (h 10 1) (h 6 3) a b c ∧ h 12 10 < 120 ∧ CP h (a.tdiv 100) (a.tmod 100) (b.tdiv 10) c (b.tmod 10 - 1) x) → CP h (a.tdiv 100) (a.tmod 100) (b.tdiv 10) c (b.tmod 10 - 1) x := fun x f => f.elim (fun w => w.1.elim (fun u => absurd u z) (fun u => absurd u y)) (fun w => w.2.2)
      refine SIMC.mk [1, 2, 9] R m1 (fun x f => (cp x f).tX.up c1_129) (fun x f hx r => ?_)
      have C := cp x f
      have m2 := c_X12_ran (K := K) (dep := d) (h := x) (by omega) (by have := r.b.2.2.2.1.1; omega) q1 q2 q3
      rw [← r.b.1.1, ← r.b.2.2.1.1, ← r.b.2.1.1, ← r.b.2.2.2.1.1, if_neg z, if_neg z, if_neg (show ¬ h 12 10 = 120 by omega), if_neg (show ¬ h 12 10 = 120 by omega)] at m2
      refine ⟨_, m2, fun x2 f2 => ?_⟩
      have e2 : x2 = cmM x (a.tdiv 100) (a.tmod 100) (b.tdiv 10) c (b.tmod 10 - 1) := by
        rw [← f2, cmM, ← r.b.2.2.2.1.1]
      have zz : ranP (h 1 4) (h 10 1) (h 6 3) a b c := Decidable.not_not.mp z
      obtain ⟨z1, z2, z3, z4, z5, z6, z7⟩ := zz
      rw [e2]
      have s1 := R.b.ix.2.1.1
      have bc := RlBC.come r.b r.c (by omega) C z3 z4 z5 z6 (by omega)
      exact ⟨(cmM_t _ _ _ _ _).up c1_129, RLp.bc bc.1 bc.2⟩
/-! runs from a row -/
theorem rfP_eq {sz len nr nc ns : Int} {row row2 : Nat → Int} {f : Int} (hl : len ≤ 60) (e : ∀ j : Nat, j < 60 → row j = row2 j) : rfP sz len nr nc ns row f ↔ rfP sz len nr nc ns row2 f := by
  unfold rfP
  by_cases z : 0 ≤ f ∧ f + 5 ≤ len
  · rw [e f.toNat (by omega), e (f.toNat + 1) (by omega), e (f.toNat + 2) (by omega), e (f.toNat + 3) (by omega), e (f.toNat + 4) (by omega)]
  · exact ⟨fun w => absurd w.1 z, fun w => absurd w.1 z⟩
theorem runs_sim {G M : Hp} {a i : Int} (ln : G 49 a.toNat = M 88 a.toNat) (ll : G 49 a.toNat ≤ 60) (er : ∀ j : Nat, j < 60 → G (51 + a.toNat) j = rowM M a j) (e1 : G 1 4 = M 57 13) (e2 : G 10 1 = M 57 15) (e3 : G 6 3 = M 57 14) : ∀ (n c : Nat) (g h y z : Hp), (c = 0 ∨ 0 ≤ i) → RlB g h → RlC (g 12 10) (g 6 3) g h → g 1 4 = G 1 4 → g 10 1 = G 10 1 → g 6 3 = G 6 3 → rnX G a i n c g y → rnM M a i n c h z → (RlB y z ∧ RlC (y 12 10) (y 6 3) y z) ∧ rnC (G 49 a.toNat) (G 1 4) (G 10 1) (G 6 3) (G (51 + a.toNat)) i n c (g 12 10) = rnD M a i n c (h 57 16)
  | 0, c, g, h, y, z, _, R, Q, _, _, _, hy, hz => by
    have hy : y = g := hy
    have hz : z = h := hz
    rw [hy, hz]
    exact ⟨⟨R, Q⟩, rfl⟩
  | n + 1, c, g, h, y, z, hc, R, Q, g1, g2, g3, hy, hz => by
    have dd := R.2.2.2.1.1
    have key : rfP (g 12 10) (G 49 a.toNat) (G 1 4) (G 10 1) (G 6 3) (G (51 + a.toNat)) (i + 5 * (c : Int)) ↔ rfM M a i c (h 57 16) := by
      rw [rfP_eq ll er]
      unfold rfM
      rw [← ln, ← e1, ← e2, ← e3, ← dd]
      refine ⟨fun w => ⟨?_, w⟩, fun w => w.2⟩
      rcases hc with u | u
      · have := w.1.1
        omega
      · exact u
    unfold rnC rnD
    by_cases w : rfM M a i c (h 57 16)
    · have w2 := key.mpr w
      rw [if_pos w2, if_pos w]
      rcases hy with hy | ⟨_, g', C, hy⟩
      · exact absurd w2 hy.1
      rcases hz with hz | ⟨_, hz⟩
      · exact absurd w hz.1
      have ew : ∀ j : Nat, j < 5 → G (51 + a.toNat) ((i + 5 * (c : Int)).toNat + j) = rowM M a ((i + 5 * (c : Int)).toNat + j) := fun j hj => er _ (by have := w2.1; omega)
      have ew0 : G (51 + a.toNat) (i + 5 * (c : Int)).toNat = rowM M a (i + 5 * (c : Int)).toNat := ew 0 (by decide)
      have s1 := R.ix.2.1.1
      have rp := w2.2.1
      have sz := w2.2.2
      obtain ⟨p1, p2, p3, p4, p5⟩ := rp
      have bc := RlBC.come R Q (by omega) C (by omega) (by omega) p3 p4 (by omega)
      have cn := C.ns
      unfold cmR at hz
      rw [← ew0, ← ew 1 (by decide), ← ew 2 (by decide), ← ew 3 (by decide), ← ew 4 (by decide)] at hz
      have ih := runs_sim ln ll er e1 e2 e3 n (c + 1) g' _ y z (Or.inr w.1) bc.1 bc.2 (by rw [cn.2.1]; exact g1) (by rw [cn.2.2.1]; exact g2) (by rw [cn.1]; exact g3) hy hz
      rw [cn.2.2.2, cmM_n] at ih
      exact ih
    · have w2 := fun u => w (key.mp u)
      rw [if_neg w2, if_neg w]
      rcases hy with hy | hy
      · rcases hz with hz | hz
        · rw [hy.2, hz.2]
          exact ⟨⟨R, Q⟩, rfl⟩
        · exact absurd hz.1 w
      · exact absurd hy.1 w2
theorem rnM_ex (G : Hp) (a i : Int) : ∀ (n c : Nat) (h : Hp), ∃ z, rnM G a i n c h z
  | 0, c, h => ⟨h, rfl⟩
  | n + 1, c, h => by
    by_cases w : rfM G a i c (h 57 16)
    · obtain ⟨z, hz⟩ := rnM_ex G a i n (c + 1) (cmR G h a i c)
      exact ⟨z, Or.inr ⟨w, hz⟩⟩
    · exact ⟨h, Or.inl ⟨w, rfl⟩⟩
theorem rnX_t {G : Hp} {a i : Int} : ∀ (n c : Nat) (g y : Hp), rnX G a i n c g y → tX [1] g y
  | 0, c, g, y, h => by
    have h : y = g := h
    rw [h]
    exact tX.rf
  | n + 1, c, g, y, h => by
    rcases h with h | ⟨_, g', C, h⟩
    · rw [h.2]
      exact tX.rf
    · exact C.tX.tr (rnX_t n _ _ _ h)
theorem rnM_t {G : Hp} {a i : Int} : ∀ (n c : Nat) (g y : Hp), rnM G a i n c g y → tM [1] g y
  | 0, c, g, y, h => by
    have h : y = g := h
    rw [h]
    exact tM.rf
  | n + 1, c, g, y, h => by
    rcases h with h | ⟨_, h⟩
    · rw [h.2]
      exact tM.rf
    · exact (cmM_t _ _ _ _ _).tr (rnM_t n _ _ _ h)
theorem sim_runs {K : KT} {d : Nat} {h : Hp} {a i n : Int} (hd : 130 ≤ d) (H : HOK h) (R : RLL h h) (q1 : inI a) (q2 : inI i) (q3 : inI n) : SIMC K yX11_runs cX11_runs 5 yX12_runs cX12_runs 12 (some .int) vI d [vR 0, vI a, vI i, vI n] [vR 57, vI a, vI i, vI n] h := by
  have n0 := R.b.ix.2.2.2.1
  have n1 := R.b.ix.2.2.2.2.1
  have m1 := c_X11_runs (K := K) (dep := d) (h := h) (by omega) ⟨n0, n1⟩ R.b.p1 R.b.p2 R.g.1 q1 q2 q3
  have d1 := R.b.2.2.2.1.1
  have m2 := c_X12_runs (K := K) (dep := d) (h := h) (by omega) (by omega) R.g.2.1 q1 q2 q3
  by_cases z : ¬ ((0 ≤ a ∧ a < 6) ∧ 1 ≤ n ∧ n ≤ 12)
  · rw [if_pos z] at m1 m2
    exact SIMC.idp R m1 (fun x f => f.elim (fun w => w.2) (fun w => absurd z w.1)) m2 (fun x f => f.elim (fun w => w.2) (fun w => absurd z w.1))
  · have sh := R.g.2.2.2.1 a.toNat (by omega)
    unfold RlS at sh
    by_cases y : h 47 a.toNat = 2
    · rw [if_neg z, if_neg (show ¬ h 47 a.toNat = 6 by omega), if_neg (show ¬ h 47 a.toNat ≠ 2 by omega)] at m1
      have rn : ∀ x, ((¬ ((0 ≤ a ∧ a < 6) ∧ 1 ≤ n ∧ n ≤ 12) ∨ h 47 a.toNat ≠ 2) ∧ x = h) ∨ (¬ (¬ ((0 ≤ a ∧ a < 6) ∧ 1 ≤ n ∧ n ≤ 12)) ∧ h 47 a.toNat = 2 ∧ rnX h a i n.toNat 0 h x) → rnX h a i n.toNat 0 h x := fun x f => f.elim (fun w => w.1.elim (fun u => absurd u z) (fun u => absurd y u)) (fun w => w.2.2)
      refine SIMC.mk [1, 2, 9] R m1 (fun x f => (rnX_t _ _ _ _ (rn x f)).up c1_129) (fun x f hx r => ?_)
      have sh2 := r.g.2.2.2.1 a.toNat (by omega)
      unfold RlS at sh2
      have e86 : x 86 a.toNat = 2 := by omega
      have m3 := c_X12_runs (K := K) (dep := d) (h := x) (by omega) (by have := r.b.2.2.2.1.1; omega) r.g.2.1 q1 q2 q3
      rw [if_neg z, if_neg (show ¬ x 86 a.toNat = -2 by omega), if_neg (show ¬ x 86 a.toNat ≠ 2 by omega)] at m3
      have pl := R.g.1 a.toNat (by omega)
      have sim := fun (x2 : Hp) (f2 : rnM x a i n.toNat 0 x x2) => runs_sim (G := h) (M := x) (a := a) (i := i) (by omega) pl.2.2.2 (fun j hj => by rw [r.g.2.2.2.2 a.toNat j (by omega) hj]) r.b.1.1 r.b.2.2.1.1 r.b.2.1.1 n.toNat 0 h x x x2 (Or.inl rfl) r.b r.c rfl rfl rfl (rn x f) f2
      have rm : ∀ x2, ((¬ ((0 ≤ a ∧ a < 6) ∧ 1 ≤ n ∧ n ≤ 12) ∨ x 86 a.toNat ≠ 2) ∧ x2 = x) ∨ (¬ (¬ ((0 ≤ a ∧ a < 6) ∧ 1 ≤ n ∧ n ≤ 12)) ∧ x 86 a.toNat = 2 ∧ rnM x a i n.toNat 0 x x2) → rnM x a i n.toNat 0 x x2 := fun x2 f2 => f2.elim (fun w => w.1.elim (fun u => absurd u z) (fun u => absurd e86 u)) (fun w => w.2.2)
      obtain ⟨x0, hx0⟩ := rnM_ex x a i n.toNat 0 x
      rw [← (sim x0 hx0).2] at m3
      exact ⟨_, m3, fun x2 f2 => ⟨(rnM_t _ _ _ _ (rm x2 f2)).up c1_129, RLp.bc (sim x2 (rm x2 f2)).1.1 (sim x2 (rm x2 f2)).1.2⟩⟩
    · by_cases w6 : h 47 a.toNat = 6
      · rw [if_neg z, if_pos w6] at m1
        rw [if_neg z, if_pos (show h 86 a.toNat = -2 by omega)] at m2
        exact SIMC.idp R m1 (fun x f => f.elim (fun w => w.2) (fun w => absurd w.2.1 y)) m2 (fun x f => f.elim (fun w => w.2) (fun w => by have := w.2.1; omega))
      · rw [if_neg z, if_neg w6, if_pos y] at m1
        rw [if_neg z, if_neg (show ¬ h 86 a.toNat = -2 by omega), if_pos (show h 86 a.toNat ≠ 2 by omega)] at m2
        exact SIMC.idp R m1 (fun x f => f.elim (fun w => w.2) (fun w => absurd w.2.1 y)) m2 (fun x f => f.elim (fun w => w.2) (fun w => by have := w.2.1; omega))
