/-! which in its shoe: the class's order against the reference's count (a draft: not compiled yet) -/
theorem wiF_sum {who worn ord : Nat → Int} {run : Int} : ∀ (d m k : Nat) (acc : Int), d < m → ord (k + d) = run → (∀ j : Nat, k ≤ j → j < k + d → ord j ≠ run) → wiF who worn ord run m k acc = acc + sumF (fun j => if who (ord j).toNat = who run.toNat ∧ worn (ord j).toNat = worn run.toNat then 1 else 0) (rngF d k)
  | 0, 0, k, acc, hd, he, hj => absurd hd (Nat.lt_irrefl _)
  | 0, m + 1, k, acc, hd, he, hj => by
    unfold wiF
    rw [if_pos (by rw [Nat.add_zero] at he; exact he)]
    simp [rngF, sumF]
  | d + 1, 0, k, acc, hd, he, hj => absurd hd (Nat.not_lt_zero _)
  | d + 1, m + 1, k, acc, hd, he, hj => by
    unfold wiF
    rw [if_neg (hj k (Nat.le_refl _) (by omega))]
    rw [wiF_sum d m (k + 1) _ (by omega) (by rw [show k + 1 + d = k + (d + 1) by omega]; exact he) (fun j h1 h2 => hj j (by omega) (by omega))]
    rw [rngF_succ, sumF_cons]
    by_cases c : who (ord k).toNat = who run.toNat ∧ worn (ord k).toNat = worn run.toNat
    · rw [if_pos c, if_pos c]
      omega
    · rw [if_neg c, if_neg c]
      omega
theorem which_eq {n : Int} {who ye worn ord : Nat → Int} {run : Int} (hn : 0 ≤ n) (H : KO n who ye ord) (h0 : 0 ≤ run) (h1 : run < n) : wiF who worn ord run n.toNat 0 0 = whF n who worn ye run := by
  obtain ⟨p, hp, e⟩ := H.at (r := run.toNat) (by omega)
  have ep : ord p = run := by omega
  have ne : ∀ j : Nat, j < p → ord j ≠ run := fun j hj w => by
    have l := H.2.2 j p hj hp
    rw [w, ep] at l
    simp only [lexP] at l
    omega
  rw [wiF_sum p n.toNat 0 0 (by omega) (by rw [Nat.zero_add]; exact ep) (fun j _ hj => ne j (by omega))]
  have q : whF n who worn ye run = sumF (fun k => if who k = who run.toNat ∧ worn k = worn run.toNat ∧ aheadI ye k run then 1 else 0) (List.range n.toNat) := by
    have f : whS who worn ye run = fun k a => a + (if who k = who run.toNat ∧ worn k = worn run.toNat ∧ aheadI ye k run then 1 else 0) := by
      funext k a
      unfold whS
      split <;> omega
    unfold whF
    rw [f, lp_sum]
    show 0 + sumF _ (rngF n.toNat 0) = _
    rw [rngF_zero, Int.zero_add]
  have pm := sumF_perm (f := fun k => if who k = who run.toNat ∧ worn k = worn run.toNat ∧ aheadI ye k run then 1 else 0) H.2.1
  have om : ∀ f : Nat → Int, sumF f (ordL n.toNat ord) = sumF (fun k => f (ord k).toNat) (List.range p) + sumF (fun k => f (ord k).toNat) ((List.range (n.toNat - p)).map (fun i => p + i)) := fun f => by
    unfold ordL
    rw [sumF_map, ← sumF_app, ← List.range_add, show p + (n.toNat - p) = n.toNat by omega]
  rw [q, ← pm, om]
  have z : sumF (fun k => if who (ord k).toNat = who run.toNat ∧ worn (ord k).toNat = worn run.toNat ∧ aheadI ye (((ord k).toNat : Nat) : Int) run then 1 else 0) ((List.range (n.toNat - p)).map (fun i => p + i)) = 0 := by
    rw [sumF_congr (g := fun _ => 0) (fun k hk => by
      obtain ⟨i, hi, ei⟩ := List.mem_map.mp hk
      have hi2 := List.mem_range.mp hi
      rw [if_neg]
      intro w
      have w3 := w.2.2
      have w1 := w.1
      have o := H.1 k (by omega)
      simp only [aheadI, Int.toNat_natCast] at w3
      by_cases y : k = p
      · rw [y, ep] at w3
        omega
      · have l := H.2.2 p k (by omega) (by omega)
        rw [ep] at l
        simp only [lexP] at l
        omega)]
    have s0 : ∀ l : List Nat, sumF (fun _ => (0 : Int)) l = 0 := fun l => by
      induction l with
      | nil => rfl
      | cons x l ih => rw [sumF_cons, ih]; rfl
    exact s0 _
  have w := sumF_congr (f := fun k => if who (ord k).toNat = who run.toNat ∧ worn (ord k).toNat = worn run.toNat then (1 : Int) else 0) (g := fun k => if who (ord k).toNat = who run.toNat ∧ worn (ord k).toNat = worn run.toNat ∧ aheadI ye (((ord k).toNat : Nat) : Int) run then (1 : Int) else 0) (l := List.range p) (fun k hk => by
    have hk2 := List.mem_range.mp hk
    have l := H.2.2 k p hk2 hp
    rw [ep] at l
    have o := H.1 k (by omega)
    show (if who (ord k).toNat = who run.toNat ∧ worn (ord k).toNat = worn run.toNat then (1 : Int) else 0) = if who (ord k).toNat = who run.toNat ∧ worn (ord k).toNat = worn run.toNat ∧ aheadI ye (((ord k).toNat : Nat) : Int) run then 1 else 0
    by_cases c : who (ord k).toNat = who run.toNat ∧ worn (ord k).toNat = worn run.toNat
    · rw [if_pos c, if_pos ⟨c.1, c.2, by
        simp only [lexP] at l
        simp only [aheadI, Int.toNat_natCast]
        have := c.1
        omega⟩]
    · rw [if_neg c, if_neg (fun w => c ⟨w.1, w.2.1⟩)])
  rw [z, rngF_zero, Int.zero_add, Int.add_zero]
  exact w
