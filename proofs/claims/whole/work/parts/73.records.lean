/-! records: the class's line, walked, and the reference's search -/
abbrev bfN (ye ti : Nat → Int) (a b : Nat) : Prop := ye a < ye b ∨ ye a = ye b ∧ (ti a < ti b ∨ ti a = ti b ∧ a < b)
theorem befP_nat {ye ti : Nat → Int} {a b : Nat} : befP ye ti (a : Int) (b : Int) ↔ bfN ye ti a b := by
  simp only [befP, bfN, Int.toNat_natCast, Int.ofNat_lt]
theorem slQ_spec (ye tm row : Nat → Int) (b : Int) : ∀ k : Nat, (∀ j : Nat, slQ ye tm row b k ≤ j → j < k → ye (row j).toNat = ye b.toNat ∧ tm b.toNat < tm (row j).toNat) ∧ (0 < slQ ye tm row b k → ¬ (ye (row (slQ ye tm row b k - 1)).toNat = ye b.toNat ∧ tm b.toNat < tm (row (slQ ye tm row b k - 1)).toNat))
  | 0 => ⟨fun j _ h => absurd h (Nat.not_lt_zero _), fun h => absurd h (Nat.lt_irrefl _)⟩
  | k + 1 => by
    have q := slQ_spec ye tm row b k
    by_cases h : ye (row k).toNat = ye b.toNat ∧ tm b.toNat < tm (row k).toNat
    · rw [slQ_t h]
      refine ⟨fun j h1 h2 => ?_, q.2⟩
      by_cases z : j = k
      · rw [z]; exact h
      · exact q.1 j h1 (by omega)
    · rw [slQ_f h]
      exact ⟨fun j h1 h2 => by omega, fun _ => h⟩
/-- the line holds the runs of the order's first k that P holds of, sorted -/
def LI (P : Nat → Prop) (ye ti ord : Nat → Int) (k : Nat) (s : LN) : Prop := (∀ j : Nat, j < s.1 → ∃ i : Nat, i < k ∧ s.2 j = ord i ∧ P (ord i).toNat) ∧ (∀ i : Nat, i < k → P (ord i).toNat → ∃ j : Nat, j < s.1 ∧ s.2 j = ord i) ∧ ∀ i j : Nat, i < j → j < s.1 → bfN ye ti (s.2 i).toNat (s.2 j).toNat
theorem luS_LI {n : Int} {co sh th ye ti ord : Nat → Int} {c b : Int} {k : Nat} {s : LN} (H : KO n co ye ord) (hk : (k : Int) < n) (h : LI (fun r => co r = c ∧ ¬ faP sh th b r) ye ti ord k s) : LI (fun r => co r = c ∧ ¬ faP sh th b r) ye ti ord (k + 1) (luS co sh th ye ti ord c b k s) := by
  obtain ⟨i1, i2, i3⟩ := h
  unfold luS
  by_cases z : co (ord k).toNat = c ∧ ¬ faP sh th b (ord k).toNat
  · rw [if_pos z]
    have pl := slQ_le ye ti s.2 (ord k) s.1
    have ps := slQ_spec ye ti s.2 (ord k) s.1
    generalize hp : slQ ye ti s.2 (ord k) s.1 = p at pl ps
    have hrow : ∀ j : Nat, slR ye ti s.2 s.1 (ord k) j = if j = p then ord k else if p < j ∧ j ≤ s.1 then s.2 (j - 1) else s.2 j := fun j => by unfold slR; rw [hp]
    have r1 : ∀ j : Nat, j < p → slR ye ti s.2 s.1 (ord k) j = s.2 j := fun j hj => by rw [hrow, if_neg (by omega), if_neg (by omega)]
    have r2 : slR ye ti s.2 s.1 (ord k) p = ord k := by rw [hrow, if_pos rfl]
    have r3 : ∀ j : Nat, p < j → j ≤ s.1 → slR ye ti s.2 s.1 (ord k) j = s.2 (j - 1) := fun j h1 h2 => by rw [hrow, if_neg (by omega), if_pos ⟨h1, h2⟩]
    -- those that stand there came earlier
    have early : ∀ j : Nat, j < s.1 → ye (s.2 j).toNat < ye (ord k).toNat ∨ ye (s.2 j).toNat = ye (ord k).toNat ∧ (s.2 j).toNat < (ord k).toNat := fun j hj => by
      obtain ⟨i, hi, e, pi⟩ := i1 j hj
      have l := H.2.2 i k hi hk
      rw [e]
      have c1 := pi.1
      have c2 := z.1
      simp only [lexP] at l
      omega
    refine ⟨fun j hj => ?_, fun i hi pi => ?_, fun i j hij hj => ?_⟩
    · have hj : j < s.1 + 1 := hj
      by_cases y : j < p
      · obtain ⟨i, hi, e, pi⟩ := i1 j (by omega)
        exact ⟨i, by omega, by show slR ye ti s.2 s.1 (ord k) j = _; rw [r1 j y]; exact e, pi⟩
      · by_cases w : j = p
        · exact ⟨k, by omega, by show slR ye ti s.2 s.1 (ord k) j = _; rw [w, r2], z⟩
        · obtain ⟨i, hi, e, pi⟩ := i1 (j - 1) (by omega)
          exact ⟨i, by omega, by show slR ye ti s.2 s.1 (ord k) j = _; rw [r3 j (by omega) (by omega)]; exact e, pi⟩
    · by_cases y : i = k
      · exact ⟨p, by show p < s.1 + 1; omega, by show slR ye ti s.2 s.1 (ord k) p = _; rw [r2, y]⟩
      · obtain ⟨j, hj, e⟩ := i2 i (by omega) pi
        by_cases w : j < p
        · exact ⟨j, by show j < s.1 + 1; omega, by show slR ye ti s.2 s.1 (ord k) j = _; rw [r1 j w]; exact e⟩
        · exact ⟨j + 1, by show j + 1 < s.1 + 1; omega, by show slR ye ti s.2 s.1 (ord k) (j + 1) = _; rw [r3 (j + 1) (by omega) (by omega)]; exact e⟩
    · have hj : j < s.1 + 1 := hj
      show bfN ye ti (slR ye ti s.2 s.1 (ord k) i).toNat (slR ye ti s.2 s.1 (ord k) j).toNat
      have up : ∀ i : Nat, i < p → bfN ye ti (s.2 i).toNat (ord k).toNat := fun i hi => by
        have nb := ps.2 (by omega)
        have ea := early (p - 1) (by omega)
        have key : bfN ye ti (s.2 (p - 1)).toNat (ord k).toNat := by
          simp only [bfN]
          omega
        by_cases y : i = p - 1
        · rw [y]; exact key
        · have a := i3 i (p - 1) (by omega) (by omega)
          simp only [bfN] at a key ⊢
          omega
      have dn : ∀ j : Nat, p ≤ j → j < s.1 → bfN ye ti (ord k).toNat (s.2 j).toNat := fun j h1 h2 => by
        have q := ps.1 j h1 h2
        simp only [bfN]
        omega
      by_cases c1 : j < p
      · rw [r1 i (by omega), r1 j c1]
        exact i3 i j hij (by omega)
      · by_cases c2 : j = p
        · rw [c2, r1 i (by omega), r2]
          exact up i (by omega)
        · rw [r3 j (by omega) (by omega)]
          by_cases c3 : i < p
          · rw [r1 i c3]
            exact i3 i (j - 1) (by omega) (by omega)
          · by_cases c4 : i = p
            · rw [c4, r2]
              exact dn (j - 1) (by omega) (by omega)
            · rw [r3 i (by omega) (by omega)]
              exact i3 (i - 1) (j - 1) (by omega) (by omega)
  · rw [if_neg z]
    refine ⟨fun j hj => ?_, fun i hi pi => ?_, i3⟩
    · obtain ⟨i, hi, e⟩ := i1 j hj
      exact ⟨i, by omega, e⟩
    · by_cases y : i = k
      · rw [y] at pi
        exact absurd pi z
      · exact i2 i (by omega) pi
theorem luL_LI {n : Int} {co sh th ye ti ord : Nat → Int} {c b : Int} (H : KO n co ye ord) : ∀ (m k : Nat) (s : LN), (k : Int) + m = n → LI (fun r => co r = c ∧ ¬ faP sh th b r) ye ti ord k s → LI (fun r => co r = c ∧ ¬ faP sh th b r) ye ti ord (k + m) (lp (luS co sh th ye ti ord c b) m k s)
  | 0, k, s, _, h => h
  | m + 1, k, s, hk, h => by
    show LI _ ye ti ord (k + (m + 1)) (lp (luS co sh th ye ti ord c b) m (k + 1) (luS co sh th ye ti ord c b k s))
    rw [show k + (m + 1) = k + 1 + m by omega]
    exact luL_LI H m (k + 1) _ (by push_cast; omega) (luS_LI H (by omega) h)
/-- the line as a list -/
def lnL (n k : Nat) (row : Nat → Int) : List Nat := (List.range n).map (fun j => (row (k + j)).toNat)
theorem lnL_cons (n k : Nat) (row : Nat → Int) : lnL (n + 1) k row = (row k).toNat :: lnL n (k + 1) row := by
  unfold lnL
  rw [List.range_succ_eq_map, List.map_cons, List.map_map]
  congr 1
  exact List.map_congr_left (fun j _ => by show (row (k + (j + 1))).toNat = (row (k + 1 + j)).toNat; rw [show k + (j + 1) = k + 1 + j by omega])
def reL (ti : Nat → Int) (i : Int) : List Nat → Int → Int → Int
  | [], _, m => if i = -1 then m else -1
  | r :: l, q, m => if ti r < q then (if m = i then (r : Int) else reL ti i l (ti r) (m + 1)) else reL ti i l q m
def wkL (i : Int) : List Nat → Int → Int
  | [], m => if i = -1 then m else -1
  | r :: l, m => if m = i then (r : Int) else wkL i l (m + 1)
theorem reF_L {ti row : Nat → Int} {i : Int} : ∀ (n k : Nat) (q m : Int), (∀ j : Nat, j < k + n → 0 ≤ row j) → reF ti row i n k q m = reL ti i (lnL n k row) q m
  | 0, k, q, m, _ => rfl
  | n + 1, k, q, m, h => by
    rw [lnL_cons]
    unfold reF reL
    have e : ((row k).toNat : Int) = row k := Int.toNat_of_nonneg (h k (by omega))
    rw [e, reF_L n (k + 1) _ _ (fun j hj => h j (by omega)), reF_L n (k + 1) _ _ (fun j hj => h j (by omega))]
theorem irB_spec {wh sh th ye ti : Nat → Int} {run lim : Int} : ∀ n k : Nat, irB wh sh th ye ti run lim n k = true ↔ ∀ r : Nat, k ≤ r → r < k + n → ¬ (wh r = wh run.toNat ∧ ¬ faP sh th lim r ∧ befP ye ti r run ∧ ti r ≤ ti run.toNat)
  | 0, k => ⟨fun _ r h1 h2 => by omega, fun _ => rfl⟩
  | n + 1, k => by
    unfold irB
    by_cases z : wh k = wh run.toNat ∧ ¬ faP sh th lim k ∧ befP ye ti k run ∧ ti k ≤ ti run.toNat
    · rw [if_pos z]
      exact ⟨fun w => absurd w (by decide), fun w => absurd z (w k (Nat.le_refl _) (by omega))⟩
    · rw [if_neg z, irB_spec n (k + 1)]
      refine ⟨fun w r h1 h2 => ?_, fun w r h1 h2 => w r (by omega) (by omega)⟩
      by_cases y : r = k
      · rw [y]; exact z
      · exact w r (by omega) (by omega)
section RECS
variable {h : Hp} {c lim : Int} {L : List Nat}
/-- what is asked of the list of a course's runs -/
def RLs (h : Hp) (c lim : Int) (L : List Nat) : Prop := (∀ r : Nat, r ∈ L ↔ (r : Int) < h 57 16 ∧ h 67 r = c ∧ ¬ faP (h 70) (h 62) lim r) ∧ L.Pairwise (bfN (h 68) (h 69))
theorem RLs.rcd (H : RLs h c lim L) {r : Nat} (hr : r ∈ L) : irH h r lim = true ↔ ∀ x ∈ L, bfN (h 68) (h 69) x r → h 69 r < h 69 x := by
  have a := (H.1 r).mp hr
  rw [irB_spec]
  refine ⟨fun w x hx hb => ?_, fun w x _ h2 y => ?_⟩
  · have b := (H.1 x).mp hx
    have q := w x (Nat.zero_le _) (by omega)
    simp only [Int.toNat_natCast] at q
    rcases Int.lt_or_le (h 69 r) (h 69 x) with z | z
    · exact z
    · exact absurd ⟨by rw [b.2.1, a.2.1], b.2.2, befP_nat.mpr hb, z⟩ q
  · simp only [Int.toNat_natCast] at y
    have m := (H.1 x).mpr ⟨by omega, by rw [y.1, a.2.1], y.2.1⟩
    have := w x m (befP_nat.mp y.2.2.1)
    omega
/-- the class's walk sees the records alone -/
theorem reL_wk (H : RLs h c lim L) (ht : ∀ r ∈ L, h 69 r ≤ 29999) (i : Int) : ∀ (l pre : List Nat) (q m : Int), L = pre ++ l → (∀ x : Int, x ≤ 29999 → (x < q ↔ ∀ r ∈ pre, x < h 69 r)) → reL (h 69) i l q m = wkL i (l.filter (fun r : Nat => irH h r lim)) m
  | [], pre, q, m, _, _ => rfl
  | r :: l, pre, q, m, e, hq => by
    have hr : r ∈ L := by rw [e]; exact List.mem_append_right _ List.mem_cons_self
    have pw := H.2
    rw [e] at pw
    have pa := List.pairwise_append.mp pw
    have pc := List.pairwise_cons.mp pa.2.1
    have iff : irH h r lim = true ↔ h 69 r < q := by
      rw [H.rcd hr, hq _ (ht r hr)]
      refine ⟨fun w x hx => w x (by rw [e]; exact List.mem_append_left _ hx) (pa.2.2 x hx r List.mem_cons_self), fun w x hx hb => ?_⟩
      rw [e] at hx
      rcases List.mem_append.mp hx with y | y
      · exact w x y
      · rcases List.mem_cons.mp y with y | y
        · rw [y] at hb
          simp only [bfN] at hb
          omega
        · have b2' := pc.1 x y
          simp only [bfN] at hb b2'
          omega
    have e2 : L = (pre ++ [r]) ++ l := by rw [e, List.append_assoc]; rfl
    unfold reL
    by_cases z : h 69 r < q
    · rw [if_pos z, List.filter_cons, if_pos (iff.mpr z)]
      unfold wkL
      rw [reL_wk H ht i l (pre ++ [r]) (h 69 r) (m + 1) e2 (fun x hx => ?_)]
      refine ⟨fun w y hy => ?_, fun w => w r (List.mem_append_right _ List.mem_cons_self)⟩
      rcases List.mem_append.mp hy with y2 | y2
      · have := (hq _ (ht r hr)).mp z y y2
        omega
      · rw [List.mem_singleton.mp y2]
        exact w
    · rw [if_neg z, List.filter_cons, if_neg (fun w => z (iff.mp w))]
      exact reL_wk H ht i l (pre ++ [r]) q m e2 (fun x hx => ⟨fun w y hy => by
        rcases List.mem_append.mp hy with y2 | y2
        · exact (hq x hx).mp w y y2
        · rw [List.mem_singleton.mp y2]
          omega, fun w => (hq x hx).mpr (fun y hy => w y (List.mem_append_left _ hy))⟩)
def nrQ (h : Hp) (c lim last : Int) (k : Nat) : Prop := h 67 k = c ∧ isR h k lim ∧ (last < 0 ∨ befP (h 68) (h 69) last k)
theorem nr_spec {last : Int} : ∀ m : Nat, (lp (nrS h c lim last) m 0 (-1) = -1 ∧ ∀ k : Nat, k < m → ¬ nrQ h c lim last k) ∨ (∃ v : Nat, lp (nrS h c lim last) m 0 (-1) = v ∧ v < m ∧ nrQ h c lim last v ∧ ∀ k : Nat, k < m → nrQ h c lim last k → ¬ bfN (h 68) (h 69) k v)
  | 0 => Or.inl ⟨rfl, fun k hk => absurd hk (Nat.not_lt_zero _)⟩
  | m + 1 => by
    rw [lp_snoc, Nat.zero_add]
    rcases nr_spec (last := last) m with ⟨e, w⟩ | ⟨v, e, hv, qv, w⟩
    · rw [e]
      by_cases z : nrQ h c lim last m
      · refine Or.inr ⟨m, ?_, by omega, z, fun k hk qk => ?_⟩
        · unfold nrS
          rw [if_pos ⟨z.1, z.2.1, z.2.2, Or.inl (by decide)⟩]
        · by_cases y : k = m
          · rw [y]
            simp only [bfN]
            omega
          · exact absurd qk (w k (by omega))
      · refine Or.inl ⟨?_, fun k hk qk => ?_⟩
        · unfold nrS
          rw [if_neg (fun y => z ⟨y.1, y.2.1, y.2.2.1⟩)]
        · by_cases y : k = m
          · rw [y] at qk
            exact z qk
          · exact w k (by omega) qk
    · rw [e]
      by_cases z : nrQ h c lim last m ∧ befP (h 68) (h 69) (m : Int) (v : Int)
      · refine Or.inr ⟨m, ?_, by omega, z.1, fun k hk qk y => ?_⟩
        · unfold nrS
          rw [if_pos ⟨z.1.1, z.1.2.1, z.1.2.2, Or.inr z.2⟩]
        · have b := befP_nat.mp z.2
          by_cases u : k = m
          · rw [u] at y
            simp only [bfN] at y
            omega
          · refine w k (by omega) qk ?_
            simp only [bfN] at y b ⊢
            omega
      · refine Or.inr ⟨v, ?_, by omega, qv, fun k hk qk y => ?_⟩
        · unfold nrS
          rw [if_neg (fun y => y.2.2.2.elim (fun u => by omega) (fun u => z ⟨⟨y.1, y.2.1, y.2.2.1⟩, u⟩))]
        · by_cases u : k = m
          · rw [u] at qk y
            exact z ⟨qk, befP_nat.mpr y⟩
          · exact w k (by omega) qk y
/-- the reference's walk goes through the records -/
theorem rcF_wk (H : RLs h c lim L) (i : Int) : ∀ (l pre : List Nat) (f : Nat) (m last : Int), L.filter (fun r : Nat => irH h r lim) = pre ++ l → l.length < f → (∀ r ∈ L.filter (fun r : Nat => irH h r lim), (last < 0 ∨ befP (h 68) (h 69) last r) ↔ r ∈ l) → rcF h c lim i f m last = wkL i l m := by
  have memQ : ∀ (last : Int) (k : Nat), (k : Int) < h 57 16 → (nrQ h c lim last k ↔ k ∈ L.filter (fun r : Nat => irH h r lim) ∧ (last < 0 ∨ befP (h 68) (h 69) last k)) := fun last k hk => by
    unfold nrQ isR
    simp only [Int.toNat_natCast]
    rw [List.mem_filter, H.1]
    refine ⟨fun ⟨a, ⟨b, d⟩, e⟩ => ⟨⟨⟨hk, a, b⟩, d⟩, e⟩, fun ⟨⟨⟨_, a, b⟩, d⟩, e⟩ => ⟨a, ⟨b, d⟩, e⟩⟩
  have inL : ∀ r ∈ L.filter (fun r : Nat => irH h r lim), (r : Int) < h 57 16 := fun r hr => ((H.1 r).mp (List.mem_filter.mp hr).1).1
  intro l
  induction l with
  | nil =>
    intro pre f m last e hf hl
    obtain ⟨f, rfl⟩ : ∃ g, f = g + 1 := ⟨f - 1, by omega⟩
    rcases nr_spec (h := h) (c := c) (lim := lim) (last := last) (h 57 16).toNat with ⟨e1, w⟩ | ⟨v, e1, hv, qv, w⟩
    · unfold rcF wkL
      have e2 : nrF h c lim last = -1 := e1
      rw [if_pos (by rw [e2]; decide)]
    · exfalso
      have q := (memQ last v (by omega)).mp qv
      exact absurd ((hl v q.1).mp q.2) List.not_mem_nil
  | cons x l ih =>
    intro pre f m last e hf hl
    obtain ⟨f, rfl⟩ : ∃ g, f = g + 1 := ⟨f - 1, by have : 0 ≤ (x :: l).length := Nat.zero_le _; omega⟩
    have pw : (L.filter (fun r : Nat => irH h r lim)).Pairwise (bfN (h 68) (h 69)) := H.2.filter _
    have hx : x ∈ L.filter (fun r : Nat => irH h r lim) := by rw [e]; exact List.mem_append_right _ List.mem_cons_self
    have e2 := e
    rw [e] at pw
    have pa := List.pairwise_append.mp pw
    have pc := List.pairwise_cons.mp pa.2.1
    have ex : nrF h c lim last = (x : Int) := by
      have qx := (memQ last x (inL x hx)).mpr ⟨hx, (hl x hx).mpr List.mem_cons_self⟩
      have lx := inL x hx
      rcases nr_spec (h := h) (c := c) (lim := lim) (last := last) (h 57 16).toNat with ⟨e1, w⟩ | ⟨v, e1, hv, qv, w⟩
      · exact absurd qx (w x (by omega))
      · rw [nrF, e1]
        have q := (memQ last v (by omega)).mp qv
        rcases List.mem_cons.mp ((hl v q.1).mp q.2) with y | y
        · rw [y]
        · exact absurd (pc.1 v y) (w x (by omega) qx)
    unfold rcF wkL
    rw [ex, if_neg (by omega)]
    by_cases z : m = i
    · rw [if_pos z, if_pos z]
    · rw [if_neg z, if_neg z]
      refine ih (pre ++ [x]) f (m + 1) x (by rw [e2, List.append_assoc]; rfl) (by rw [List.length_cons] at hf; omega) (fun r hr => ?_)
      rw [befP_nat]
      rw [e2] at hr
      refine ⟨fun w => ?_, fun w => Or.inr (pc.1 r w)⟩
      have w2 : bfN (h 68) (h 69) x r := w.elim (fun y => by omega) id
      rcases List.mem_append.mp hr with y | y
      · have b := pa.2.2 r y x List.mem_cons_self
        simp only [bfN] at b w2
        omega
      · rcases List.mem_cons.mp y with y | y
        · rw [y] at w2
          simp only [bfN] at w2
          omega
        · exact y
end RECS
theorem nodup_len {n : Nat} : ∀ l : List Nat, l.Nodup → (∀ r ∈ l, r < n) → l.length ≤ n := fun l hd h =>
  (List.length_range (n := n)) ▸ (List.Nodup.length_le_of_subset hd (fun r hr => List.mem_range.mpr (h r hr)))
theorem records_eq {h : Hp} {ord row0 : Nat → Int} {c lim i : Int} (H : KO (h 57 16) (h 67) (h 68) ord) (h0 : 0 ≤ h 57 16) (h1 : h 57 16 ≤ 120) (ht : ∀ r : Nat, (r : Int) < h 57 16 → h 69 r ≤ 29999) : reF (h 69) (lp (luS (h 67) (h 70) (h 62) (h 68) (h 69) ord c lim) (h 57 16).toNat 0 (0, row0)).2 i (lp (luS (h 67) (h 70) (h 62) (h 68) (h 69) ord c lim) (h 57 16).toNat 0 (0, row0)).1 0 30000 0 = rcF h c lim i 121 0 (-1) := by
  have q := luL_LI (sh := h 70) (th := h 62) (ti := h 69) (c := c) (b := lim) H (h 57 16).toNat 0 (0, row0) (by omega) ⟨fun j hj => absurd hj (Nat.not_lt_zero _), fun i hi => absurd hi (Nat.not_lt_zero _), fun i j _ hj => absurd hj (Nat.not_lt_zero _)⟩
  generalize lp (luS (h 67) (h 70) (h 62) (h 68) (h 69) ord c lim) (h 57 16).toNat 0 (0, row0) = s at q
  obtain ⟨i1, i2, i3⟩ := q
  rw [Nat.zero_add] at i1 i2
  have nn : ∀ j : Nat, j < s.1 → 0 ≤ s.2 j ∧ s.2 j < h 57 16 := fun j hj => by
    obtain ⟨k, hk, e, _⟩ := i1 j hj
    rw [e]
    exact H.1 k (by omega)
  rw [reF_L s.1 0 30000 0 (fun j hj => (nn j (by omega)).1)]
  have R : RLs h c lim (lnL s.1 0 s.2) := by
    refine ⟨fun r => ⟨fun w => ?_, fun w => ?_⟩, ?_⟩
    · obtain ⟨j, hj, e⟩ := List.mem_map.mp w
      have hj := List.mem_range.mp hj
      rw [Nat.zero_add] at e
      obtain ⟨k, hk, e3, e4⟩ := i1 j hj
      have b := nn j hj
      rw [← e3, e] at e4
      exact ⟨by omega, e4.1, e4.2⟩
    · obtain ⟨k, hk, e⟩ := H.at w.1
      obtain ⟨j, hj, e2⟩ := i2 k (by omega) (by rw [e, Int.toNat_natCast]; exact w.2)
      refine List.mem_map.mpr ⟨j, List.mem_range.mpr hj, ?_⟩
      rw [Nat.zero_add, e2, e]
      rfl
    · unfold lnL
      rw [List.pairwise_map]
      refine List.Pairwise.imp_of_mem ?_ List.pairwise_lt_range
      intro a b ha hb hab
      have hb := List.mem_range.mp hb
      rw [Nat.zero_add, Nat.zero_add]
      exact i3 a b hab hb
  have hn : ∀ r ∈ lnL s.1 0 s.2, (r : Int) < h 57 16 := fun r hr => ((R.1 r).mp hr).1
  rw [reL_wk R (fun r hr => ht r (hn r hr)) i (lnL s.1 0 s.2) [] 30000 0 rfl (fun x hx => ⟨fun _ r hr => absurd hr List.not_mem_nil, fun _ => by omega⟩)]
  refine (rcF_wk R i ((lnL s.1 0 s.2).filter (fun r : Nat => irH h r lim)) [] 121 0 (-1) rfl ?_ (fun r hr => ⟨fun _ => hr, fun _ => Or.inl (by decide)⟩)).symm
  have nd : (lnL s.1 0 s.2).Nodup := R.2.imp (fun {a b} w => by
    intro y
    rw [y] at w
    simp only [bfN] at w
    omega)
  have l1 := nodup_len (n := 120) _ nd (fun r hr => by have := hn r hr; omega)
  have l2 := List.length_filter_le (fun r : Nat => irH h r lim) (lnL s.1 0 s.2)
  omega
