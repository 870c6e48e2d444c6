/-! subsets: the gain by a subset falls with the sum of the new ones; sums of subsets of a sorted list -/
theorem ediv_cross {x y a b : Int} (ha : 0 < a) (hb : 0 < b) (h : x * b ≤ y * a) : x / a ≤ y / b := by
  rw [Int.le_ediv_iff_mul_le hb]
  have q := Int.ediv_mul_le x (by omega : a ≠ 0)
  have q2 := Int.mul_le_mul_of_nonneg_right q (by omega : 0 ≤ b)
  have q3 : x / a * b * a ≤ y * a := by
    have e : x / a * b * a = x / a * a * b := by rw [Int.mul_assoc, Int.mul_comm b a, ← Int.mul_assoc]
    omega
  exact Int.le_of_mul_le_mul_right q3 ha
theorem tdiv_cross {x y a b : Int} (ha : 0 < a) (hb : 0 < b) (h : x * b ≤ y * a) : x.tdiv a ≤ y.tdiv b := by
  rcases Int.lt_or_le y 0 with hy | hy
  · rcases Int.lt_or_le x 0 with hx | hx
    · have e1 : x.tdiv a = -((-x) / a) := by
        rw [← Int.tdiv_eq_ediv_of_nonneg (by omega), Int.neg_tdiv]; omega
      have e2 : y.tdiv b = -((-y) / b) := by
        rw [← Int.tdiv_eq_ediv_of_nonneg (by omega), Int.neg_tdiv]; omega
      have q := ediv_cross (x := -y) (y := -x) (a := b) (b := a) hb ha (by rw [Int.neg_mul, Int.neg_mul]; omega)
      omega
    · exfalso
      have p1 := Int.mul_nonneg hx (by omega : 0 ≤ b)
      have p2 := Int.mul_neg_of_neg_of_pos hy ha
      omega
  · rcases Int.lt_or_le x 0 with hx | hx
    · have e1 : x.tdiv a = -((-x) / a) := by
        rw [← Int.tdiv_eq_ediv_of_nonneg (by omega), Int.neg_tdiv]; omega
      have p1 := Int.ediv_nonneg (a := -x) (b := a) (by omega) (by omega)
      have p2 := Int.ediv_nonneg (a := y) (b := b) (by omega) (by omega)
      rw [Int.tdiv_eq_ediv_of_nonneg hy]
      omega
    · rw [Int.tdiv_eq_ediv_of_nonneg hx, Int.tdiv_eq_ediv_of_nonneg hy]
      exact ediv_cross ha hb h
theorem share_mono {A B A2 B2 : Int} (h0 : 0 < A) (h1 : A ≤ A2) (h2 : 0 ≤ B2) (h3 : B2 ≤ B) : ((A - B) * 1000).tdiv A ≤ ((A2 - B2) * 1000).tdiv A2 := by
  refine tdiv_cross h0 (by omega) ?_
  have q1 : B2 * A ≤ B2 * A2 := Int.mul_le_mul_of_nonneg_left h1 h2
  have q2 : B2 * A2 ≤ B * A2 := Int.mul_le_mul_of_nonneg_right h3 (by omega)
  have e1 : (A - B) * 1000 * A2 = 1000 * (A * A2) - 1000 * (B * A2) := by
    rw [Int.mul_comm (A - B) 1000, Int.mul_assoc, Int.sub_mul, Int.mul_sub]
  have e2 : (A2 - B2) * 1000 * A = 1000 * (A * A2) - 1000 * (B2 * A) := by
    rw [Int.mul_comm (A2 - B2) 1000, Int.mul_assoc, Int.sub_mul, Int.mul_sub, Int.mul_comm A2 A]
  omega
theorem besF_mono {os os2 ns ns2 o n : Int} (ho : 0 < o) (hn : 0 < n) (h0 : o ≤ os) (h1 : os ≤ os2) (h2 : 0 ≤ ns2) (h3 : ns2 ≤ ns) : besF os o ns n ≤ besF os2 o ns2 n := by
  unfold besF
  have a1 : (1 : Int) ≤ os.tdiv o := by
    rw [Int.tdiv_eq_ediv_of_nonneg (by omega), Int.le_ediv_iff_mul_le ho]
    omega
  have a2 : os.tdiv o ≤ os2.tdiv o := tdiv_cross ho ho (Int.mul_le_mul_of_nonneg_right h1 (by omega))
  have a3 : ns2.tdiv n ≤ ns.tdiv n := tdiv_cross hn hn (Int.mul_le_mul_of_nonneg_right h3 (by omega))
  have a4 : 0 ≤ ns2.tdiv n := by
    rw [Int.tdiv_eq_ediv_of_nonneg h2]
    exact Int.ediv_nonneg h2 (by omega)
  exact share_mono (by omega) a2 a4 a3
/-- a subset of a list: its sum, its count -/
def Sb : List Int → Int → Nat → Prop
  | [], s, c => s = 0 ∧ c = 0
  | v :: l, s, c => Sb l s c ∨ ∃ (s0 : Int) (c0 : Nat), Sb l s0 c0 ∧ s = s0 + v ∧ c = c0 + 1
theorem Sb.nil : Sb [] 0 0 := ⟨rfl, rfl⟩
theorem Sb.out {v : Int} {l : List Int} {s : Int} {c : Nat} (h : Sb l s c) : Sb (v :: l) s c := Or.inl h
theorem Sb.take {v : Int} {l : List Int} {s : Int} {c : Nat} (h : Sb l s c) : Sb (v :: l) (s + v) (c + 1) := Or.inr ⟨s, c, h, rfl, rfl⟩
theorem Sb.ind {motive : (l : List Int) → (s : Int) → (c : Nat) → Sb l s c → Prop} (nil : motive [] 0 0 Sb.nil) (out : ∀ {v : Int} {l : List Int} {s : Int} {c : Nat} (h : Sb l s c), motive l s c h → motive (v :: l) s c (Sb.out h)) (take : ∀ {v : Int} {l : List Int} {s : Int} {c : Nat} (h : Sb l s c), motive l s c h → motive (v :: l) (s + v) (c + 1) (Sb.take h)) : ∀ {l : List Int} {s : Int} {c : Nat} (h : Sb l s c), motive l s c h := by
  intro l
  induction l with
  | nil =>
    intro s c h
    obtain ⟨h1, h2⟩ : s = 0 ∧ c = 0 := h
    subst h1
    subst h2
    exact nil
  | cons v l ih =>
    intro s c h
    have h3 : Sb l s c ∨ ∃ (s0 : Int) (c0 : Nat), Sb l s0 c0 ∧ s = s0 + v ∧ c = c0 + 1 := h
    rcases h3 with h2 | ⟨s0, c0, h2, e1, e2⟩
    · exact out h2 (ih h2)
    · subst e1
      subst e2
      exact take h2 (ih h2)
theorem Sb.cons {v : Int} {l : List Int} {s : Int} {c : Nat} (h : Sb (v :: l) s c) : Sb l s c ∨ ∃ (s0 : Int) (c0 : Nat), Sb l s0 c0 ∧ s = s0 + v ∧ c = c0 + 1 := h
theorem Sb.len {l : List Int} {s : Int} {c : Nat} (h : Sb l s c) : c ≤ l.length := by
  induction h using Sb.ind with
  | nil => exact Nat.le_refl _
  | out _ ih => rw [List.length_cons]; omega
  | take _ ih => rw [List.length_cons]; omega
theorem Sb.perm {l l2 : List Int} (p : l.Perm l2) : ∀ {s : Int} {c : Nat}, Sb l s c → Sb l2 s c := by
  induction p with
  | nil => exact fun h => h
  | cons x _ ih =>
    intro s c h
    rcases h.cons with k | ⟨s0, c0, k, e1, e2⟩
    · exact Sb.out (ih k)
    · subst e1
      subst e2
      exact Sb.take (ih k)
  | swap x y l =>
    intro s c h
    rcases h.cons with k | ⟨s0, c0, k, e1, e2⟩
    · rcases k.cons with m | ⟨s0, c0, m, e1, e2⟩
      · exact Sb.out (Sb.out m)
      · subst e1
        subst e2
        exact Sb.take (Sb.out m)
    · subst e1
      subst e2
      rcases k.cons with m | ⟨s1, c1, m, e1, e2⟩
      · exact Sb.out (Sb.take m)
      · subst e1
        subst e2
        rw [show s1 + x + y = s1 + y + x by omega]
        exact Sb.take (Sb.take m)
  | trans _ _ i1 i2 => exact fun h => i2 (i1 h)
/-- the sum of a list's first c -/
def tsum : Nat → List Int → Int
  | 0, _ => 0
  | _ + 1, [] => 0
  | c + 1, v :: l => v + tsum c l
theorem tsum_sb : ∀ (c : Nat) (l : List Int), c ≤ l.length → Sb l (tsum c l) c
  | 0, [], _ => Sb.nil
  | 0, _ :: l, _ => Sb.out (by have := tsum_sb 0 l (Nat.zero_le _); rw [show tsum 0 l = 0 by cases l <;> rfl] at this; exact this)
  | _ + 1, [], h => absurd h (Nat.not_succ_le_zero _)
  | c + 1, v :: l, h => by
    have q := tsum_sb c l (by rw [List.length_cons] at h; omega)
    show Sb (v :: l) (v + tsum c l) (c + 1)
    rw [Int.add_comm]
    exact Sb.take q
/-- sorted: by an order on whole numbers, up or down -/
theorem tsum_up : ∀ (l : List Int) (v : Int) (c : Nat), (v :: l).Pairwise (· ≤ ·) → c ≤ l.length → tsum c (v :: l) ≤ tsum c l
  | l, v, 0, _, _ => by rw [show tsum 0 l = 0 by cases l <;> rfl]; exact Int.le_refl _
  | [], v, c + 1, _, h => absurd h (Nat.not_succ_le_zero _)
  | w :: l, v, c + 1, p, h => by
    show v + tsum c (w :: l) ≤ w + tsum c l
    have p2 := List.pairwise_cons.mp p
    have q := tsum_up l w c p2.2 (by rw [List.length_cons] at h; omega)
    have q2 := p2.1 w List.mem_cons_self
    omega
theorem tsum_down : ∀ (l : List Int) (v : Int) (c : Nat), (v :: l).Pairwise (· ≥ ·) → c ≤ l.length → tsum c l ≤ tsum c (v :: l)
  | l, v, 0, _, _ => by rw [show tsum 0 l = 0 by cases l <;> rfl]; exact Int.le_refl _
  | [], v, c + 1, _, h => absurd h (Nat.not_succ_le_zero _)
  | w :: l, v, c + 1, p, h => by
    show w + tsum c l ≤ v + tsum c (w :: l)
    have p2 := List.pairwise_cons.mp p
    have q := tsum_down l w c p2.2 (by rw [List.length_cons] at h; omega)
    have q2 := p2.1 w List.mem_cons_self
    omega
theorem Sb.low {l : List Int} {s : Int} {c : Nat} (h : Sb l s c) (p : l.Pairwise (· ≤ ·)) : tsum c l ≤ s := by
  induction h using Sb.ind with
  | nil => exact Int.le_refl _
  | out h ih =>
    have q := ih (List.pairwise_cons.mp p).2
    have q2 := tsum_up _ _ _ p h.len
    omega
  | take h ih =>
    have q := ih (List.pairwise_cons.mp p).2
    show _ + tsum _ _ ≤ _
    omega
theorem Sb.high {l : List Int} {s : Int} {c : Nat} (h : Sb l s c) (p : l.Pairwise (· ≥ ·)) : s ≤ tsum c l := by
  induction h using Sb.ind with
  | nil => exact Int.le_refl _
  | out h ih =>
    have q := ih (List.pairwise_cons.mp p).2
    have q2 := tsum_down _ _ _ p h.len
    omega
  | take h ih =>
    have q := ih (List.pairwise_cons.mp p).2
    show _ ≤ _ + tsum _ _
    omega
