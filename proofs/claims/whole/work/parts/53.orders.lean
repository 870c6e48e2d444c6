/-! orders: the order's list is the runs', sorted -/
def ordL (n : Nat) (ord : Nat → Int) : List Nat := (List.range n).map (fun k => (ord k).toNat)
/-- an order by owner, year, number -/
abbrev lexP (ow ye : Nat → Int) (a b : Nat) : Prop := ow a < ow b ∨ ow a = ow b ∧ (ye a < ye b ∨ ye a = ye b ∧ a < b)
def KO (n : Int) (ow ye ord : Nat → Int) : Prop := PO n ord ∧ (ordL n.toNat ord).Perm (List.range n.toNat) ∧ ∀ i j : Nat, i < j → (j : Int) < n → lexP ow ye (ord i).toNat (ord j).toNat
theorem KO.zero (ow ye ord : Nat → Int) : KO 0 ow ye ord := ⟨fun k hk => by omega, List.Perm.refl _, fun i j _ hj => by omega⟩
theorem insQ_spec (ow ye ord : Nat → Int) (b : Int) : ∀ k : Nat, (∀ j : Nat, insQ ow ye ord b k ≤ j → j < k → behP ow ye ord b j) ∧ (0 < insQ ow ye ord b k → ¬ behP ow ye ord b (insQ ow ye ord b k - 1))
  | 0 => ⟨fun j _ h => absurd h (Nat.not_lt_zero _), fun h => absurd h (Nat.lt_irrefl _)⟩
  | k + 1 => by
    have q := insQ_spec ow ye ord b k
    by_cases h : behP ow ye ord b k
    · rw [insQ_t h]
      refine ⟨fun j h1 h2 => ?_, q.2⟩
      by_cases z : j = k
      · rw [z]; exact h
      · exact q.1 j h1 (by omega)
    · rw [insQ_f h]
      exact ⟨fun j h1 h2 => by omega, fun _ => h⟩
theorem list_range_split (n p : Nat) (hp : p ≤ n) : List.range n = List.range p ++ (List.range (n - p)).map (fun i => p + i) := by
  rw [show n = p + (n - p) by omega, List.range_add]
  simp
theorem KO.ins {n : Int} {ow ye ord row : Nat → Int} (hn : 0 ≤ n) (H : KO n ow ye ord) (hr : ∀ j : Nat, row j = insR ow ye ord n j) : KO (n + 1) ow ye row := by
  obtain ⟨H1, H2, H3⟩ := H
  have pl := insQ_le ow ye ord n n.toNat
  have ps := insQ_spec ow ye ord n n.toNat
  generalize hp : insQ ow ye ord n n.toNat = p at pl ps
  have hrow : ∀ j : Nat, row j = if j = p then n else if p < j ∧ (j : Int) ≤ n then ord (j - 1) else ord j := fun j => by rw [hr j]; unfold insR; rw [hp]
  have r1 : ∀ j : Nat, j < p → row j = ord j := fun j hj => by rw [hrow, if_neg (by omega), if_neg (by omega)]
  have r2 : row p = n := by rw [hrow, if_pos rfl]
  have r3 : ∀ j : Nat, p < j → (j : Int) ≤ n → row j = ord (j - 1) := fun j h1 h2 => by rw [hrow, if_neg (by omega), if_pos ⟨h1, h2⟩]
  refine ⟨PO.ins hn H1 hr, ?_, ?_⟩
  · have e1 : ordL (n + 1).toNat row = ordL p ord ++ n.toNat :: (List.range (n.toNat - p)).map (fun i => (ord (p + i)).toNat) := by
      unfold ordL
      rw [show (n + 1).toNat = p + (1 + (n.toNat - p)) by omega, List.range_add, List.map_append, List.map_map]
      congr 1
      · exact List.map_congr_left (fun j hj => by rw [r1 j (List.mem_range.mp hj)])
      · rw [show 1 + (n.toNat - p) = (n.toNat - p) + 1 by omega, List.range_succ_eq_map, List.map_cons, List.map_map]
        congr 1
        · show (row (p + 0)).toNat = n.toNat
          rw [Nat.add_zero, r2]
        · exact List.map_congr_left (fun j hj => by
            have := List.mem_range.mp hj
            show (row (p + (j + 1))).toNat = (ord (p + j)).toNat
            rw [r3 (p + (j + 1)) (by omega) (by omega)]
            rfl)
    have e2 : ordL n.toNat ord = ordL p ord ++ (List.range (n.toNat - p)).map (fun i => (ord (p + i)).toNat) := by
      unfold ordL
      conv => lhs; rw [show n.toNat = p + (n.toNat - p) by omega, List.range_add, List.map_append, List.map_map]
      rfl
    rw [e1]
    refine List.perm_middle.trans ?_
    rw [← e2, show (n + 1).toNat = n.toNat + 1 by omega, List.range_succ]
    exact (List.Perm.cons _ H2).trans (List.perm_append_comm (l₁ := [n.toNat]) (l₂ := List.range n.toNat))
  · have up : ∀ i : Nat, i < p → lexP ow ye (ord i).toNat n.toNat := fun i hi => by
      have nb := ps.2 (by omega)
      have oi := H1 (p - 1) (by omega)
      have key : lexP ow ye (ord (p - 1)).toNat n.toNat := by
        simp only [behP] at nb
        simp only [lexP]
        omega
      by_cases z : i = p - 1
      · rw [z]; exact key
      · have a := H3 i (p - 1) (by omega) (by omega)
        simp only [lexP] at a key ⊢
        omega
    have dn : ∀ j : Nat, p ≤ j → (j : Int) < n → lexP ow ye n.toNat (ord j).toNat := fun j h1 h2 => by
      have b := ps.1 j h1 (by omega)
      simp only [behP] at b
      simp only [lexP]
      omega
    intro i j hij hj
    by_cases c1 : j < p
    · rw [r1 i (by omega), r1 j c1]
      exact H3 i j hij (by omega)
    · by_cases c2 : j = p
      · subst c2
        rw [r1 i hij, r2]
        exact up i hij
      · rw [r3 j (by omega) (by omega)]
        by_cases c3 : i < p
        · rw [r1 i c3]
          exact H3 i (j - 1) (by omega) (by omega)
        · by_cases c4 : i = p
          · subst c4
            rw [r2]
            exact dn (j - 1) (by omega) (by omega)
          · rw [r3 i (by omega) (by omega)]
            exact H3 (i - 1) (j - 1) (by omega) (by omega)
/-- every run stands somewhere -/
theorem KO.at {n : Int} {ow ye ord : Nat → Int} (H : KO n ow ye ord) {r : Nat} (hr : (r : Int) < n) : ∃ k : Nat, (k : Int) < n ∧ ord k = r := by
  have m : r ∈ ordL n.toNat ord := H.2.1.symm.subset (List.mem_range.mpr (by omega))
  obtain ⟨k, hk, e⟩ := List.mem_map.mp m
  have hk2 := List.mem_range.mp hk
  have := H.1 k (by omega)
  exact ⟨k, by omega, by omega⟩
/-- sums over runs, by an order -/
def sumF (f : Nat → Int) (l : List Nat) : Int := l.foldl (fun a k => a + f k) 0
theorem foldl_add (f : Nat → Int) : ∀ (l : List Nat) (a : Int), l.foldl (fun a k => a + f k) a = a + sumF f l
  | [], a => by simp [sumF]
  | k :: l, a => by
    unfold sumF
    simp only [List.foldl_cons]
    rw [foldl_add f l, foldl_add f l (0 + f k)]
    omega
theorem sumF_cons (f : Nat → Int) (k : Nat) (l : List Nat) : sumF f (k :: l) = f k + sumF f l := by
  show (l.foldl (fun a k => a + f k) (0 + f k)) = _
  rw [foldl_add]
  omega
theorem sumF_perm {f : Nat → Int} {l l2 : List Nat} (h : l.Perm l2) : sumF f l = sumF f l2 := by
  induction h with
  | nil => rfl
  | cons x _ ih => rw [sumF_cons, sumF_cons, ih]
  | swap x y l => rw [sumF_cons, sumF_cons, sumF_cons, sumF_cons]; omega
  | trans _ _ a b => exact a.trans b
/-- a fold that adds, from k on -/
theorem lp_sum {f : Nat → Int} : ∀ (n k : Nat) (a : Int), lp (fun k a => a + f k) n k a = a + sumF f ((List.range n).map (fun i => k + i))
  | 0, k, a => by simp [lp, sumF]
  | n + 1, k, a => by
    have q := lp_sum (f := f) n (k + 1) (a + f k)
    unfold lp
    rw [q, List.range_succ_eq_map, List.map_cons, List.map_map, sumF_cons]
    have e : (List.map (fun i => k + 1 + i) (List.range n)) = List.map ((fun i => k + i) ∘ Nat.succ) (List.range n) := List.map_congr_left (fun i _ => by show k + 1 + i = k + (i + 1); omega)
    rw [e, Nat.add_zero]
    omega
