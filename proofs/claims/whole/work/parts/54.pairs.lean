/-! pairs: the class's order against the reference's search -/
abbrev rngF (n k : Nat) : List Nat := (List.range n).map (fun i => k + i)
theorem rngF_succ (n k : Nat) : rngF (n + 1) k = k :: rngF n (k + 1) := by
  unfold rngF
  rw [List.range_succ_eq_map, List.map_cons, List.map_map]
  congr 1
  exact List.map_congr_left (fun i _ => by show k + (i + 1) = k + 1 + i; omega)
theorem rngF_zero (n : Nat) : rngF n 0 = List.range n := by
  unfold rngF
  rw [show (fun i => 0 + i) = (id : Nat → Nat) from funext fun i => Nat.zero_add i]
  exact List.map_id _
theorem sumF_nil (f : Nat → Int) : sumF f [] = 0 := rfl
theorem sumF_app (f : Nat → Int) (l l2 : List Nat) : sumF f (l ++ l2) = sumF f l + sumF f l2 := by
  induction l with
  | nil => rw [List.nil_append, sumF_nil]; omega
  | cons x l ih => rw [List.cons_append, sumF_cons, sumF_cons, ih]; omega
theorem sumF_map (f : Nat → Int) (g : Nat → Nat) (l : List Nat) : sumF f (l.map g) = sumF (fun k => f (g k)) l := by
  induction l with
  | nil => rfl
  | cons x l ih => rw [List.map_cons, sumF_cons, sumF_cons, ih]
theorem sumF_congr {f g : Nat → Int} {l : List Nat} (h : ∀ k ∈ l, f k = g k) : sumF f l = sumF g l := by
  induction l with
  | nil => rfl
  | cons x l ih => rw [sumF_cons, sumF_cons, h x List.mem_cons_self, ih (fun k hk => h k (List.mem_cons_of_mem _ hk))]
theorem lp_fun {F : Nat → (Nat → Int × Int) → Nat → Int × Int} {c g : Nat → Int} {q : Nat} (h : ∀ k S, F k S q = ((S q).1 + c k, (S q).2 + g k)) : ∀ (n k : Nat) (S : Nat → Int × Int), lp F n k S q = ((S q).1 + sumF c (rngF n k), (S q).2 + sumF g (rngF n k))
  | 0, k, S => by simp [lp, rngF, sumF]
  | n + 1, k, S => by
    unfold lp
    rw [lp_fun h n (k + 1) (F k S), h k S, rngF_succ, sumF_cons, sumF_cons]
    refine Prod.ext ?_ ?_ <;> simp only <;> omega
theorem lp_two {F : Nat → Int × Int → Int × Int} {c g : Nat → Int} (h : ∀ k s, F k s = (s.1 + c k, s.2 + g k)) : ∀ (n k : Nat) (s : Int × Int), lp F n k s = (s.1 + sumF c (rngF n k), s.2 + sumF g (rngF n k))
  | 0, k, s => by simp [lp, rngF, sumF]
  | n + 1, k, s => by
    unfold lp
    rw [lp_two h n (k + 1) (F k s), h k s, rngF_succ, sumF_cons, sumF_cons]
    refine Prod.ext ?_ ?_ <;> simp only <;> omega
/-- the runs that may come next -/
abbrev cndP (who ye : Nat → Int) (run : Int) (r : Nat) : Prop := who r = who run.toNat ∧ aheadI ye run r
theorem nextL_spec {who ye : Nat → Int} {run : Int} : ∀ (n k : Nat) (nx : Int), (nx = -1 ∧ (∀ r : Nat, r < k → ¬ cndP who ye run r) ∨ 0 ≤ nx ∧ nx < k ∧ cndP who ye run nx.toNat ∧ ∀ r : Nat, r < k → cndP who ye run r → (r : Int) = nx ∨ aheadI ye nx r) → (lp (nextS who ye run) n k nx = -1 ∧ (∀ r : Nat, r < k + n → ¬ cndP who ye run r) ∨ 0 ≤ lp (nextS who ye run) n k nx ∧ lp (nextS who ye run) n k nx < ((k + n : Nat) : Int) ∧ cndP who ye run (lp (nextS who ye run) n k nx).toNat ∧ ∀ r : Nat, r < k + n → cndP who ye run r → (r : Int) = lp (nextS who ye run) n k nx ∨ aheadI ye (lp (nextS who ye run) n k nx) r)
  | 0, k, nx, h => h
  | n + 1, k, nx, h => by
    unfold lp
    rw [show k + (n + 1) = k + 1 + n by omega]
    refine nextL_spec n (k + 1) (nextS who ye run k nx) ?_
    unfold nextS
    by_cases c : who k = who run.toNat ∧ aheadI ye run k ∧ (nx < 0 ∨ aheadI ye k nx)
    · rw [if_pos c]
      right
      refine ⟨by omega, by omega, ?_, fun r hr hc => ?_⟩
      · rw [Int.toNat_natCast]; exact ⟨c.1, c.2.1⟩
      · by_cases z : r = k
        · left; rw [z]
        · right
          rcases h with h | h
          · exact absurd hc (h.2 r (by omega))
          · have q := h.2.2.2 r (by omega) hc
            have c3 := c.2.2
            simp only [aheadI, Int.toNat_natCast] at q c3 ⊢
            rcases q with q | q
            · rw [← q] at c3
              simp only [Int.toNat_natCast] at c3
              omega
            · omega
    · rw [if_neg c]
      rcases h with h | h
      · left
        refine ⟨h.1, fun r hr hc => ?_⟩
        by_cases z : r = k
        · subst z
          exact c ⟨hc.1, hc.2, Or.inl (by omega)⟩
        · exact h.2 r (by omega) hc
      · right
        refine ⟨h.1, by omega, h.2.2.1, fun r hr hc => ?_⟩
        by_cases z : r = k
        · subst z
          by_cases e : (r : Int) = nx
          · exact Or.inl e
          · right
            have c2 : ¬ (nx < 0 ∨ aheadI ye r nx) := fun y => c ⟨hc.1, hc.2, y⟩
            simp only [aheadI, Int.toNat_natCast] at c2 ⊢
            omega
        · exact h.2.2.2 r (by omega) hc
theorem nextF_at {n : Int} {ow ye ord : Nat → Int} (hn : 0 ≤ n) (H : KO n ow ye ord) {k : Nat} (hk : (k : Int) < n) : nextF n ow ye (ord k) = if (k : Int) + 1 < n ∧ ow (ord (k + 1)).toNat = ow (ord k).toNat then ord (k + 1) else -1 := by
  have s := nextL_spec (who := ow) (ye := ye) (run := ord k) n.toNat 0 (-1) (Or.inl ⟨rfl, fun r hr => absurd hr (Nat.not_lt_zero _)⟩)
  rw [Nat.zero_add] at s
  have ok := H.1 k hk
  show lp (nextS ow ye (ord k)) n.toNat 0 (-1) = _
  generalize lp (nextS ow ye (ord k)) n.toNat 0 (-1) = nx at s ⊢
  have aft : ∀ r : Nat, (r : Int) < n → cndP ow ye (ord k) r → ∃ j : Nat, k < j ∧ (j : Int) < n ∧ ord j = r := fun r hr hc => by
    obtain ⟨j, hj, e⟩ := H.at hr
    refine ⟨j, ?_, hj, e⟩
    have hc2 := hc.2
    have hc1 := hc.1
    have er : r = (ord j).toNat := by omega
    rw [er] at hc2 hc1
    simp only [aheadI, Int.toNat_natCast] at hc2
    rcases Nat.lt_trichotomy j k with z | z | z
    · have l := H.2.2 j k z hk
      simp only [lexP] at l
      omega
    · rw [z] at hc2
      omega
    · exact z
  by_cases c : (k : Int) + 1 < n ∧ ow (ord (k + 1)).toNat = ow (ord k).toNat
  · rw [if_pos c]
    have o1 := H.1 (k + 1) (by omega)
    have l1 := H.2.2 k (k + 1) (by omega) (by omega)
    have cd : cndP ow ye (ord k) (ord (k + 1)).toNat := ⟨c.2, by simp only [lexP] at l1; simp only [aheadI, Int.toNat_natCast]; omega⟩
    rcases s with s | s
    · exact absurd cd (s.2 _ (by omega))
    · obtain ⟨j, j1, j2, j3⟩ := aft nx.toNat (by omega) s.2.2.1
      have q := s.2.2.2 (ord (k + 1)).toNat (by omega) cd
      rcases q with q | q
      · omega
      · by_cases z : j = k + 1
        · rw [z] at j3; omega
        · exfalso
          have l2 := H.2.2 (k + 1) j (by omega) j2
          have e3 : (ord j).toNat = nx.toNat := by omega
          rw [e3] at l2
          have w1 := s.2.2.1.1
          have w2 := c.2
          simp only [lexP] at l2
          simp only [aheadI, Int.toNat_natCast] at q
          omega
  · rw [if_neg c]
    rcases s with s | s
    · exact s.1
    · exfalso
      obtain ⟨j, j1, j2, j3⟩ := aft nx.toNat (by omega) s.2.2.1
      have e3 : (ord j).toNat = nx.toNat := by omega
      have w1 := s.2.2.1.1
      rw [← e3] at w1
      have l1 := H.2.2 k (k + 1) (by omega) (by omega)
      simp only [lexP] at l1
      by_cases z : j = k + 1
      · rw [z] at w1
        omega
      · have l2 := H.2.2 (k + 1) j (by omega) j2
        simp only [lexP] at l2
        omega
theorem ord_cast {n : Int} {ow ye ord : Nat → Int} (H : KO n ow ye ord) {k : Nat} (hk : (k : Int) < n) : (((ord k).toNat : Nat) : Int) = ord k := by
  have := H.1 k hk
  omega
theorem pairs_eq {n : Int} {ow ye ord sh gv lv : Nat → Int} (hn : 0 ≤ n) (H : KO n ow ye ord) (q : Nat) : lp (pxS ow sh gv lv ord) (n - 1).toNat 0 (fun _ => (0, 0)) q = pairF n (nextF n ow ye) sh gv lv q := by
  have a := lp_fun (F := pxS ow sh gv lv ord) (q := q) (c := fun k => if (ow (ord k).toNat = ow (ord (k + 1)).toNat ∧ 0 ≤ sh (ord k).toNat ∧ 0 ≤ sh (ord (k + 1)).toNat) ∧ sortF sh gv (ord k).toNat (ord (k + 1)).toNat = q then 1 else 0) (g := fun k => if (ow (ord k).toNat = ow (ord (k + 1)).toNat ∧ 0 ≤ sh (ord k).toNat ∧ 0 ≤ sh (ord (k + 1)).toNat) ∧ sortF sh gv (ord k).toNat (ord (k + 1)).toNat = q then gainF lv (ord k).toNat (ord (k + 1)).toNat else 0) (fun k S => by
    unfold pxS
    split <;> refine Prod.ext ?_ ?_ <;> simp only <;> omega) (n - 1).toNat 0 (fun _ => (0, 0))
  have b := lp_two (F := pairS (nextF n ow ye) sh gv lv q) (c := fun k => if sortM sh gv k (nextF n ow ye k) = q then 1 else 0) (g := fun k => if sortM sh gv k (nextF n ow ye k) = q then gainF lv k (nextF n ow ye k).toNat else 0) (fun k s => by
    unfold pairS
    split <;> refine Prod.ext ?_ ?_ <;> simp only <;> omega) n.toNat 0 (0, 0)
  unfold pairF
  rw [a, b]
  by_cases hz : n = 0
  · subst hz
    rfl
  obtain ⟨m, hm⟩ : ∃ m : Nat, n.toNat = m + 1 := ⟨n.toNat - 1, by omega⟩
  have hm2 : (n - 1).toNat = m := by omega
  have key : ∀ (f : Nat → Int) (g : Nat → Int), (∀ k : Nat, k < m → f k = g (ord k).toNat) → g (ord m).toNat = 0 → sumF f (rngF m 0) = sumF g (rngF (m + 1) 0) := fun f g h1 h2 => by
    rw [rngF_zero, rngF_zero]
    have p := sumF_perm (f := g) H.2.1
    rw [hm] at p
    rw [← p]
    unfold ordL
    rw [sumF_map, List.range_succ, sumF_app, sumF_cons, sumF_nil, h2]
    rw [sumF_congr (fun k hk => h1 k (List.mem_range.mp hk))]
    omega
  rw [hm, hm2]
  have nxk : ∀ k : Nat, k ≤ m → nextF n ow ye (((ord k).toNat : Nat) : Int) = if (k : Int) + 1 < n ∧ ow (ord (k + 1)).toNat = ow (ord k).toNat then ord (k + 1) else -1 := fun k hk => by
    rw [ord_cast H (by omega)]
    exact nextF_at hn H (by omega)
  have mid : ∀ k : Nat, k < m → (sortM sh gv (((ord k).toNat : Nat) : Int) (nextF n ow ye (((ord k).toNat : Nat) : Int)) = q ↔ (ow (ord k).toNat = ow (ord (k + 1)).toNat ∧ 0 ≤ sh (ord k).toNat ∧ 0 ≤ sh (ord (k + 1)).toNat) ∧ sortF sh gv (ord k).toNat (ord (k + 1)).toNat = q) ∧ ((ow (ord k).toNat = ow (ord (k + 1)).toNat) → nextF n ow ye (((ord k).toNat : Nat) : Int) = ord (k + 1)) := fun k hk => by
    rw [nxk k (by omega)]
    have o1 := H.1 (k + 1) (by omega)
    by_cases c : ow (ord k).toNat = ow (ord (k + 1)).toNat
    · rw [if_pos ⟨by omega, c.symm⟩]
      refine ⟨?_, fun _ => rfl⟩
      unfold sortM
      rw [Int.toNat_natCast]
      by_cases z : ord (k + 1) < 0 ∨ sh (ord k).toNat < 0 ∨ sh (ord (k + 1)).toNat < 0
      · rw [if_pos z]
        constructor
        · intro y; omega
        · intro y; omega
      · rw [if_neg z]
        constructor
        · intro y; exact ⟨⟨c, by omega, by omega⟩, y⟩
        · intro y; exact y.2
    · rw [if_neg (fun y => c y.2.symm)]
      refine ⟨?_, fun y => absurd y c⟩
      unfold sortM
      rw [if_pos (Or.inl (by decide))]
      constructor
      · intro y; omega
      · intro y; exact absurd y.1.1 c
  have lst : sortM sh gv (((ord m).toNat : Nat) : Int) (nextF n ow ye (((ord m).toNat : Nat) : Int)) = -1 := by
    rw [nxk m (Nat.le_refl _), if_neg (by omega)]
    unfold sortM
    rw [if_pos (Or.inl (by decide))]
  refine Prod.ext ?_ ?_
  · simp only
    rw [key _ (fun k => if sortM sh gv k (nextF n ow ye k) = q then 1 else 0) ?_ ?_]
    · intro k hk
      by_cases z : (ow (ord k).toNat = ow (ord (k + 1)).toNat ∧ 0 ≤ sh (ord k).toNat ∧ 0 ≤ sh (ord (k + 1)).toNat) ∧ sortF sh gv (ord k).toNat (ord (k + 1)).toNat = q
      · simp only [if_pos z, if_pos ((mid k hk).1.mpr z)]
      · simp only [if_neg z, if_neg (fun y => z ((mid k hk).1.mp y))]
    · simp only [lst]
      rw [if_neg (by omega)]
  · simp only
    rw [key _ (fun k => if sortM sh gv k (nextF n ow ye k) = q then gainF lv k (nextF n ow ye k).toNat else 0) ?_ ?_]
    · intro k hk
      by_cases z : (ow (ord k).toNat = ow (ord (k + 1)).toNat ∧ 0 ≤ sh (ord k).toNat ∧ 0 ≤ sh (ord (k + 1)).toNat) ∧ sortF sh gv (ord k).toNat (ord (k + 1)).toNat = q
      · simp only [if_pos z, if_pos ((mid k hk).1.mpr z)]
        rw [(mid k hk).2 z.1.1]
      · simp only [if_neg z, if_neg (fun y => z ((mid k hk).1.mp y))]
    · simp only [lst]
      rw [if_neg (by omega)]
