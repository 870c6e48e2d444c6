/-! races: the class's order against all courses and years (a draft: not compiled yet) -/
/-- sums of a race: over the runs, by an order -/
def t4S (p : Nat → Bool) (sh gv lv : Nat → Int) (l : List Nat) : T4 :=
  (sumF (fun r => if p r = true ∧ 0 ≤ sh r ∧ ¬ 0 < gv (sh r).toNat then lv r else 0) l, sumF (fun r => if p r = true ∧ 0 ≤ sh r ∧ 0 < gv (sh r).toNat then lv r else 0) l,
   sumF (fun r => if p r = true ∧ 0 ≤ sh r ∧ ¬ 0 < gv (sh r).toNat then 1 else 0) l, sumF (fun r => if p r = true ∧ 0 ≤ sh r ∧ 0 < gv (sh r).toNat then 1 else 0) l)
theorem t4S_perm {p : Nat → Bool} {sh gv lv : Nat → Int} {l l2 : List Nat} (h : l.Perm l2) : t4S p sh gv lv l = t4S p sh gv lv l2 := by
  unfold t4S
  rw [sumF_perm h, sumF_perm h, sumF_perm h, sumF_perm h]
theorem t4S_snoc (p : Nat → Bool) (sh gv lv : Nat → Int) (l : List Nat) (r : Nat) : t4S p sh gv lv (l ++ [r]) = if p r = true then seenT sh gv lv r (t4S p sh gv lv l) else t4S p sh gv lv l := by
  have e : ∀ f : Nat → Int, sumF f (l ++ [r]) = sumF f l + f r := fun f => by rw [sumF_app, sumF_cons, sumF_nil]; omega
  unfold t4S
  rw [e, e, e, e]
  by_cases h1 : p r = true
  · rw [if_pos h1]
    unfold seenT addT
    by_cases h2 : 0 ≤ sh r
    · rw [if_pos h2]
      by_cases h3 : 0 < gv (sh r).toNat
      · rw [if_pos h3]
        simp only [h1, h2, h3, not_true_eq_false, and_false, and_true, if_false, if_true]
        refine Prod.ext ?_ (Prod.ext ?_ (Prod.ext ?_ ?_)) <;> simp only <;> omega
      · rw [if_neg h3]
        simp only [h1, h2, h3, not_false_eq_true, and_false, and_true, if_false, if_true]
        refine Prod.ext ?_ (Prod.ext ?_ (Prod.ext ?_ ?_)) <;> simp only <;> omega
    · rw [if_neg h2]
      simp only [h1, h2, false_and, and_false, if_false]
      refine Prod.ext ?_ (Prod.ext ?_ (Prod.ext ?_ ?_)) <;> simp only <;> omega
  · rw [if_neg h1]
    simp only [h1, Bool.false_eq_true, false_and, if_false]
    refine Prod.ext ?_ (Prod.ext ?_ (Prod.ext ?_ ?_)) <;> simp only <;> omega
theorem t4S_nil (p : Nat → Bool) (sh gv lv : Nat → Int) : t4S p sh gv lv [] = (0, 0, 0, 0) := rfl
/-- does a run belong to a race -/
def rcB (co ye : Nat → Int) (c y : Int) (r : Nat) : Bool := decide (co r = c ∧ ye r = y)
theorem raceF_eq {co ye sh gv lv : Nat → Int} {c y : Int} (n : Int) : (raceF n co ye c y sh gv lv).1 = t4S (rcB co ye c y) sh gv lv (List.range n.toNat) := by
  have key : ∀ m : Nat, (lp (raceS co ye c y sh gv lv) m 0 ((0, 0, 0, 0), 0)).1 = t4S (rcB co ye c y) sh gv lv (List.range m) := by
    have snoc : ∀ (m k : Nat) (s : T4 × Int), lp (raceS co ye c y sh gv lv) (m + 1) k s = raceS co ye c y sh gv lv (k + m) (lp (raceS co ye c y sh gv lv) m k s) := by
      intro m
      induction m with
      | zero => intro k s; rfl
      | succ m ih =>
        intro k s
        show lp (raceS co ye c y sh gv lv) (m + 1) (k + 1) _ = _
        rw [ih (k + 1)]
        rw [show k + 1 + m = k + (m + 1) by omega]
        rfl
    intro m
    induction m with
    | zero => rfl
    | succ m ih =>
      rw [snoc, Nat.zero_add, List.range_succ, t4S_snoc, ← ih]
      generalize lp (raceS co ye c y sh gv lv) m 0 ((0, 0, 0, 0), 0) = s
      unfold raceS rcB
      by_cases h : co m = c ∧ ye m = y
      · rw [if_pos h, if_pos (decide_eq_true h)]
        unfold seenT
        split <;> rfl
      · rw [if_neg h, if_neg (by simp only [decide_eq_true_eq]; exact h)]
  exact key n.toNat
/-- what a race counts, and adds -/
def vC (t : T4) : Int := if t.2.2.1 = 0 ∨ t.2.2.2 = 0 then 0 else 1
def vS (t : T4) : Int := if t.2.2.1 = 0 ∨ t.2.2.2 = 0 then 0 else besF t.1 t.2.2.1 t.2.1 t.2.2.2
/-- over all courses and years -/
def DD (C : Nat) (F : Nat → Nat → Int) : Int := sumF (fun c => sumF (fun y => F c y) (List.range 100)) (List.range C)
theorem sumF_one {f g : Nat → Int} {j : Nat} : ∀ n : Nat, j < n → (∀ k : Nat, k ≠ j → f k = g k) → sumF f (List.range n) = sumF g (List.range n) - g j + f j
  | 0, h, _ => absurd h (Nat.not_lt_zero _)
  | n + 1, h, e => by
    rw [List.range_succ, sumF_app, sumF_app, sumF_cons, sumF_cons, sumF_nil, sumF_nil]
    by_cases z : j = n
    · subst z
      rw [sumF_congr (f := f) (g := g) (fun k hk => e k (by have := List.mem_range.mp hk; omega))]
      omega
    · rw [sumF_one n (by omega) e, e n (Ne.symm z)]
      omega
theorem DD_one {C c0 y0 : Nat} {F G : Nat → Nat → Int} (hc : c0 < C) (hy : y0 < 100) (e : ∀ c y : Nat, ¬ (c = c0 ∧ y = y0) → F c y = G c y) : DD C F = DD C G - G c0 y0 + F c0 y0 := by
  unfold DD
  rw [sumF_one (f := fun c => sumF (fun y => F c y) (List.range 100)) (g := fun c => sumF (fun y => G c y) (List.range 100)) C hc (fun k hk => sumF_congr (fun y _ => e k y (fun w => hk w.1)))]
  have q := sumF_one (f := fun y => F c0 y) (g := fun y => G c0 y) (j := y0) 100 hy (fun k hk => e c0 k (fun w => hk w.2))
  omega
theorem DD_congr {C : Nat} {F G : Nat → Nat → Int} (e : ∀ c y : Nat, c < C → y < 100 → F c y = G c y) : DD C F = DD C G :=
  sumF_congr (fun c hc => sumF_congr (fun y hy => e c y (List.mem_range.mp hc) (List.mem_range.mp hy)))
/-- the reference's sums -/
theorem bsM_eq (ra : Int → Int → T4 × Int) (C : Nat) : lp (bcS ra) C 0 (0, 0) = (DD C (fun c y => vC (ra c y).1), DD C (fun c y => vS (ra c y).1)) := by
  have inner : ∀ (c : Nat) (s : Int × Int), bcS ra c s = (s.1 + sumF (fun y => vC (ra c y).1) (List.range 100), s.2 + sumF (fun y => vS (ra c y).1) (List.range 100)) := fun c s => by
    unfold bcS
    rw [lp_two (c := fun y => vC (ra c y).1) (g := fun y => vS (ra c y).1) (fun k s => by
      unfold bsS vC vS
      split <;> refine Prod.ext ?_ ?_ <;> simp only <;> omega) 100 0 s, rngF_zero]
  rw [lp_two (F := bcS ra) (c := fun c => sumF (fun y => vC (ra c y).1) (List.range 100)) (g := fun c => sumF (fun y => vS (ra c y).1) (List.range 100)) inner C 0 (0, 0), rngF_zero]
  unfold DD
  refine Prod.ext ?_ ?_ <;> simp only <;> omega
theorem t4S_none {p : Nat → Bool} {sh gv lv : Nat → Int} : ∀ {l : List Nat}, (∀ r ∈ l, p r = false) → t4S p sh gv lv l = (0, 0, 0, 0)
  | [], _ => rfl
  | r :: l, h => by
    have q := t4S_none (p := p) (sh := sh) (gv := gv) (lv := lv) (l := l) (fun k hk => h k (List.mem_cons_of_mem _ hk))
    have pr := h r List.mem_cons_self
    unfold t4S at q ⊢
    simp only [Prod.mk.injEq] at q
    obtain ⟨q1, q2, q3, q4⟩ := q
    refine Prod.ext ?_ (Prod.ext ?_ (Prod.ext ?_ ?_)) <;> simp only [sumF_cons, pr, Bool.false_eq_true, false_and, if_false] <;> omega
theorem t4S_TI {p : Nat → Bool} {sh gv lv : Nat → Int} : ∀ {l : List Nat}, (∀ r ∈ l, 5 ≤ lv r ∧ lv r ≤ 59998) → TI (t4S p sh gv lv l) l.length
  | [], _ => by
    rw [t4S_nil]
    exact ⟨by decide, by decide, by decide, by decide, by decide, by decide, by decide⟩
  | r :: l, h => by
    obtain ⟨a1, a2, a3, a4, a5, a6, a7⟩ := t4S_TI (p := p) (sh := sh) (gv := gv) (lv := lv) (l := l) (fun k hk => h k (List.mem_cons_of_mem _ hk))
    have pr := h r List.mem_cons_self
    unfold t4S at a1 a2 a3 a4 a5 a6 a7 ⊢
    simp only at a1 a2 a3 a4 a5 a6 a7
    simp only [TI, sumF_cons, List.length_cons]
    by_cases c1 : p r = true ∧ 0 ≤ sh r ∧ 0 < gv (sh r).toNat
    · have c2 : ¬ (p r = true ∧ 0 ≤ sh r ∧ ¬ 0 < gv (sh r).toNat) := fun y => y.2.2 c1.2.2
      rw [if_pos c1, if_neg c2, if_neg c2, if_pos c1]
      push_cast
      omega
    · rw [if_neg c1, if_neg c1]
      by_cases c2 : p r = true ∧ 0 ≤ sh r ∧ ¬ 0 < gv (sh r).toNat
      · rw [if_pos c2, if_pos c2]
        push_cast
        omega
      · rw [if_neg c2, if_neg c2]
        push_cast
        omega
theorem tgain_v {t : T4} {b : Int} (H : TI t b) : (tgain t = -2000000000 ↔ t.2.2.1 = 0 ∨ t.2.2.2 = 0) ∧ (¬ (t.2.2.1 = 0 ∨ t.2.2.2 = 0) → tgain t = besF t.1 t.2.2.1 t.2.1 t.2.2.2) := by
  have h1 := H.1
  have h2 := H.2.1
  unfold tgain
  by_cases c : t.2.2.1 = 0 ∨ t.2.2.2 = 0
  · rw [if_pos (by omega)]
    exact ⟨⟨fun _ => c, fun _ => rfl⟩, fun y => absurd c y⟩
  · rw [if_neg (by omega)]
    have bb := besF_in H (by omega) (by omega)
    exact ⟨⟨fun y => by omega, fun y => absurd y c⟩, fun _ => rfl⟩
theorem ordL_succ (k : Nat) (ord : Nat → Int) : ordL (k + 1) ord = ordL k ord ++ [(ord k).toNat] := by
  unfold ordL
  rw [List.range_succ, List.map_append]
  rfl
/-- is the race of the run before k still open -/
abbrev opn (n : Int) (co ye ord : Nat → Int) (k : Nat) : Prop := 0 < k ∧ ¬ lastP n co ye ord (k - 1)
def FK (v : T4 → Int) (n : Int) (co ye ord sh gv lv : Nat → Int) (k : Nat) (c y : Nat) : Int := if opn n co ye ord k ∧ co (ord (k - 1)).toNat = (c : Int) ∧ ye (ord (k - 1)).toNat = (y : Int) then 0 else v (t4S (rcB co ye c y) sh gv lv (ordL k ord))
theorem irF_eq {n : Int} {C : Nat} {co ye ord sh gv lv : Nat → Int} (hn : 0 ≤ n) (H : KO n co ye ord) (hb : ∀ r : Nat, (r : Int) < n → 0 ≤ co r ∧ co r < C ∧ 0 ≤ ye r ∧ ye r ≤ 99) (hl : ∀ r : Nat, (r : Int) < n → 5 ≤ lv r ∧ lv r ≤ 59998) : (lp (irS n co ye ord sh gv lv) n.toNat 0 ((0, 0, 0, 0), (0, 0))).2 = (DD C (fun c y => vC (raceF n co ye c y sh gv lv).1), DD C (fun c y => vS (raceF n co ye c y sh gv lv).1)) := by
  have mem : ∀ k : Nat, (k : Int) ≤ n → ∀ r ∈ ordL k ord, 5 ≤ lv r ∧ lv r ≤ 59998 := fun k hk r hr => by
    unfold ordL at hr
    obtain ⟨j, hj, e⟩ := List.mem_map.mp hr
    have := List.mem_range.mp hj
    have o := H.1 j (by omega)
    exact hl r (by omega)
  have step : ∀ (m k : Nat) (s : T4 × (Int × Int)), (k : Int) + m = n → s.1 = (if opn n co ye ord k then t4S (rcB co ye (co (ord (k - 1)).toNat) (ye (ord (k - 1)).toNat)) sh gv lv (ordL k ord) else (0, 0, 0, 0)) → s.2 = (DD C (FK vC n co ye ord sh gv lv k), DD C (FK vS n co ye ord sh gv lv k)) → (lp (irS n co ye ord sh gv lv) m k s).2 = (DD C (FK vC n co ye ord sh gv lv n.toNat), DD C (FK vS n co ye ord sh gv lv n.toNat)) := by
    intro m
    induction m with
    | zero =>
      intro k s hk h1 h2
      have e : n.toNat = k := by omega
      rw [e]
      exact h2
    | succ m ih =>
      intro k s hk h1 h2
      have hkn : (k : Int) < n := by omega
      have o := H.1 k hkn
      have b := hb (ord k).toNat (by omega)
      obtain ⟨c0, hc0⟩ : ∃ c0 : Nat, co (ord k).toNat = (c0 : Int) := ⟨(co (ord k).toNat).toNat, by omega⟩
      obtain ⟨y0, hy0⟩ : ∃ y0 : Nat, ye (ord k).toNat = (y0 : Int) := ⟨(ye (ord k).toNat).toNat, by omega⟩
      have pr : rcB co ye c0 y0 (ord k).toNat = true := decide_eq_true ⟨hc0, hy0⟩
      have none : ¬ opn n co ye ord k → t4S (rcB co ye c0 y0) sh gv lv (ordL k ord) = (0, 0, 0, 0) := fun hop => by
        apply t4S_none
        intro r hr
        unfold ordL at hr
        obtain ⟨j, hj, e⟩ := List.mem_map.mp hr
        have hjk := List.mem_range.mp hj
        have lst : lastP n co ye ord (k - 1) := Classical.byContradiction fun y => hop ⟨by omega, y⟩
        simp only [lastP] at lst
        rw [show k - 1 + 1 = k by omega] at lst
        have l1 := H.2.2 (k - 1) k (by omega) hkn
        simp only [lexP] at l1
        apply decide_eq_false
        rw [← e]
        intro w
        by_cases z : j = k - 1
        · rw [z] at w
          omega
        · have l2 := H.2.2 j (k - 1) (by omega) (by omega)
          simp only [lexP] at l2
          omega
      have same : opn n co ye ord k → co (ord (k - 1)).toNat = (c0 : Int) ∧ ye (ord (k - 1)).toNat = (y0 : Int) := fun hop => by
        have q := hop.2
        have hk0 := hop.1
        simp only [lastP] at q
        rw [show k - 1 + 1 = k by omega] at q
        omega
      have t1 : s.1 = t4S (rcB co ye c0 y0) sh gv lv (ordL k ord) := by
        rw [h1]
        by_cases hop : opn n co ye ord k
        · rw [if_pos hop, (same hop).1, (same hop).2]
        · rw [if_neg hop, none hop]
      have t2 : seenT sh gv lv (ord k).toNat s.1 = t4S (rcB co ye c0 y0) sh gv lv (ordL (k + 1) ord) := by
        rw [ordL_succ, t4S_snoc, if_pos pr, t1]
      have ti := t4S_TI (p := rcB co ye c0 y0) (sh := sh) (gv := gv) (lv := lv) (mem (k + 1) (by push_cast; omega))
      have other : ∀ (v : T4 → Int) (c y : Nat), ¬ (c = c0 ∧ y = y0) → FK v n co ye ord sh gv lv (k + 1) c y = FK v n co ye ord sh gv lv k c y := fun v c y hcy => by
        have pn : ¬ rcB co ye c y (ord k).toNat = true := fun w => by
          have w2 := of_decide_eq_true w
          omega
        have g1 : t4S (rcB co ye c y) sh gv lv (ordL (k + 1) ord) = t4S (rcB co ye c y) sh gv lv (ordL k ord) := by rw [ordL_succ, t4S_snoc, if_neg pn]
        unfold FK
        rw [if_neg (fun w => by have w2 := w.2; rw [Nat.add_sub_cancel] at w2; omega), if_neg (fun w => by have w2 := w.2; have w3 := same w.1; omega), g1]
      have zero : ∀ v : T4 → Int, v (0, 0, 0, 0) = 0 → FK v n co ye ord sh gv lv k c0 y0 = 0 := fun v hv => by
        unfold FK
        by_cases hop : opn n co ye ord k
        · rw [if_pos ⟨hop, same hop⟩]
        · rw [if_neg (fun w => hop w.1), none hop, hv]
      unfold lp
      by_cases c : lastP n co ye ord k
      · have no : ¬ opn n co ye ord (k + 1) := fun w => w.2 c
        have here : ∀ v : T4 → Int, FK v n co ye ord sh gv lv (k + 1) c0 y0 = v (t4S (rcB co ye c0 y0) sh gv lv (ordL (k + 1) ord)) := fun v => by
          unfold FK
          rw [if_neg (fun w => no w.1)]
        have dd : ∀ v : T4 → Int, v (0, 0, 0, 0) = 0 → DD C (FK v n co ye ord sh gv lv (k + 1)) = DD C (FK v n co ye ord sh gv lv k) + v (t4S (rcB co ye c0 y0) sh gv lv (ordL (k + 1) ord)) := fun v hv => by
          rw [DD_one (c0 := c0) (y0 := y0) (by omega) (by omega) (other v), here v, zero v hv]
          omega
        refine ih (k + 1) _ (by push_cast; omega) ?_ ?_
        · rw [if_neg no]
          unfold irS
          rw [if_pos c]
        · unfold irS
          rw [if_pos c, dd vC rfl, dd vS rfl, t2]
          have tv := tgain_v ti
          simp only
          by_cases z : (t4S (rcB co ye c0 y0) sh gv lv (ordL (k + 1) ord)).2.2.1 = 0 ∨ (t4S (rcB co ye c0 y0) sh gv lv (ordL (k + 1) ord)).2.2.2 = 0
          · rw [if_pos (tv.1.mpr z), h2]
            unfold vC vS
            rw [if_pos z, if_pos z]
            refine Prod.ext ?_ ?_ <;> simp only <;> omega
          · rw [if_neg (fun w => z (tv.1.mp w)), h2, tv.2 z]
            unfold vC vS
            rw [if_neg z, if_neg z]
      · have op : opn n co ye ord (k + 1) := ⟨by omega, c⟩
        have dd : ∀ v : T4 → Int, v (0, 0, 0, 0) = 0 → DD C (FK v n co ye ord sh gv lv (k + 1)) = DD C (FK v n co ye ord sh gv lv k) := fun v hv => by
          rw [DD_one (c0 := c0) (y0 := y0) (by omega) (by omega) (other v), zero v hv]
          have : FK v n co ye ord sh gv lv (k + 1) c0 y0 = 0 := by
            unfold FK
            rw [if_pos ⟨op, by rw [Nat.add_sub_cancel]; exact ⟨hc0, hy0⟩⟩]
          omega
        refine ih (k + 1) _ (by push_cast; omega) ?_ ?_
        · rw [if_pos op]
          unfold irS
          rw [if_neg c]
          show seenT sh gv lv (ord k).toNat s.1 = _
          rw [t2, Nat.add_sub_cancel, hc0, hy0]
        · unfold irS
          rw [if_neg c, dd vC rfl, dd vS rfl]
          exact h2
  have z0 : ∀ v : T4 → Int, v (0, 0, 0, 0) = 0 → DD C (FK v n co ye ord sh gv lv 0) = 0 := fun v hv => by
    rw [DD_congr (G := fun _ _ => 0) (fun c y _ _ => by
      unfold FK
      rw [if_neg (fun w => absurd w.1.1 (Nat.lt_irrefl _))]
      exact hv)]
    have s0 : ∀ l : List Nat, sumF (fun _ => (0 : Int)) l = 0 := fun l => by
      induction l with
      | nil => rfl
      | cons x l ih => rw [sumF_cons, ih]; rfl
    unfold DD
    simp only [s0]
  rw [step n.toNat 0 ((0, 0, 0, 0), (0, 0)) (by omega) (by rw [if_neg (fun w => absurd w.1 (Nat.lt_irrefl _))]) (by rw [z0 vC rfl, z0 vS rfl])]
  have fin : ∀ v : T4 → Int, DD C (FK v n co ye ord sh gv lv n.toNat) = DD C (fun c y => v (raceF n co ye c y sh gv lv).1) := fun v => DD_congr (fun c y _ _ => by
    unfold FK
    rw [if_neg (fun w => w.1.2 (by simp only [lastP]; have := w.1.1; omega)), raceF_eq]
    rw [t4S_perm H.2.1])
  rw [fin vC, fin vS]
