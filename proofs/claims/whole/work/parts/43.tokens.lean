/-! laws: the reference's reader -/
/-- a row from b on holds a stack, its top at the end -/
def STK (row : Nat → Int) (b : Nat) (L : List Int) : Prop := ∀ i : Nat, i < L.length → row (b + i) = L.getD (L.length - 1 - i) 0
theorem STK.nil (row : Nat → Int) (b : Nat) : STK row b [] := fun i h => absurd h (Nat.not_lt_zero _)
theorem STK.push {row row2 : Nat → Int} {b : Nat} {L : List Int} {v : Int} (H : STK row b L) (e : ∀ j : Nat, row2 j = if j = b + L.length then v else row j) : STK row2 b (v :: L) := by
  intro i hi
  rw [e]
  simp only [List.length_cons] at hi ⊢
  by_cases z : i = L.length
  · subst z
    rw [if_pos rfl, show L.length + 1 - 1 - L.length = 0 by omega]
    rfl
  · rw [if_neg (by omega), H i (by omega), show L.length + 1 - 1 - i = (L.length - 1 - i) + 1 by omega]
    rfl
theorem STK.pop {row : Nat → Int} {b : Nat} {L : List Int} {v : Int} (H : STK row b (v :: L)) : STK row b L ∧ row (b + L.length) = v := by
  refine ⟨fun i hi => ?_, ?_⟩
  · have q := H i (by simp only [List.length_cons]; omega)
    rw [q]
    simp only [List.length_cons]
    rw [show L.length + 1 - 1 - i = (L.length - 1 - i) + 1 by omega]
    rfl
  · have q := H L.length (by simp)
    rw [q]
    simp only [List.length_cons]
    rw [show L.length + 1 - 1 - L.length = 0 by omega]
    rfl
theorem STK.eq {row row2 : Nat → Int} {b : Nat} {L : List Int} (H : STK row b L) (e : row2 = row) : STK row2 b L := by rw [e]; exact H
/-- where the reader stands, what is pending, told, open, seen, asked -/
def MS (g : Hp) (base : Nat) (A : Int) (P T : List Int) (O : Int) (S : List Int) (C : Int) (x : Hp) : Prop :=
  EX [57, 76, 78, 79] g x ∧ (∀ j : Nat, j < 31 ∨ 36 < j → x 57 j = g 57 j) ∧ x 57 31 = A ∧ x 57 32 = (base : Int) + T.length ∧ x 57 33 = P.length ∧ x 57 34 = O ∧ x 57 35 + 1 = S.length ∧ x 57 36 = C ∧ STK (x 78) 0 P ∧ STK (x 76) base T ∧ (∀ j : Nat, j < base → x 76 j = g 76 j) ∧ STK (x 79) 0 S
theorem h57 {h : Hp} {j : Nat} {v : Int} {k : Nat} (n : k ≠ 57) : hset h 57 j v k = h k := hset_other k n
theorem hrow {h : Hp} {k j : Nat} {v : Int} : hset h k j v k = fun i => if i = j then v else h k i := by funext i; simp [hset_app]
section MSS
variable {g x : Hp} {base : Nat} {A O C : Int} {P T S : List Int}
theorem MS.at (H : MS g base A P T O S C x) (v : Int) : MS g base v P T O S C (hset x 57 31 v) := by
  obtain ⟨a1, a2, a3, a4, a5, a6, a7, a8, a9, a10, a11, a12⟩ := H
  exact ⟨a1.st rfl, fun j hj => by rw [hset_slot (by omega)]; exact a2 j hj, hset_same _ _ _ _, by rw [hset_slot (by decide)]; exact a4, by rw [hset_slot (by decide)]; exact a5, by rw [hset_slot (by decide)]; exact a6, by rw [hset_slot (by decide)]; exact a7, by rw [hset_slot (by decide)]; exact a8, a9.eq (h57 (by decide)), a10.eq (h57 (by decide)), fun j hj => by rw [h57 (by decide)]; exact a11 j hj, a12.eq (h57 (by decide))⟩
theorem MS.opn (H : MS g base A P T O S C x) (v : Int) : MS g base A P T v S C (hset x 57 34 v) := by
  obtain ⟨a1, a2, a3, a4, a5, a6, a7, a8, a9, a10, a11, a12⟩ := H
  exact ⟨a1.st rfl, fun j hj => by rw [hset_slot (by omega)]; exact a2 j hj, by rw [hset_slot (by decide)]; exact a3, by rw [hset_slot (by decide)]; exact a4, by rw [hset_slot (by decide)]; exact a5, hset_same _ _ _ _, by rw [hset_slot (by decide)]; exact a7, by rw [hset_slot (by decide)]; exact a8, a9.eq (h57 (by decide)), a10.eq (h57 (by decide)), fun j hj => by rw [h57 (by decide)]; exact a11 j hj, a12.eq (h57 (by decide))⟩
theorem MS.cnd (H : MS g base A P T O S C x) (v : Int) : MS g base A P T O S v (hset x 57 36 v) := by
  obtain ⟨a1, a2, a3, a4, a5, a6, a7, a8, a9, a10, a11, a12⟩ := H
  exact ⟨a1.st rfl, fun j hj => by rw [hset_slot (by omega)]; exact a2 j hj, by rw [hset_slot (by decide)]; exact a3, by rw [hset_slot (by decide)]; exact a4, by rw [hset_slot (by decide)]; exact a5, by rw [hset_slot (by decide)]; exact a6, by rw [hset_slot (by decide)]; exact a7, hset_same _ _ _ _, a9.eq (h57 (by decide)), a10.eq (h57 (by decide)), fun j hj => by rw [h57 (by decide)]; exact a11 j hj, a12.eq (h57 (by decide))⟩
theorem MS.pop {p : Int} (H : MS g base A (p :: P) T O S C x) : MS g base A P T O S C (hset x 57 33 (x 57 33 - 1)) ∧ x 57 33 = P.length + 1 ∧ x 78 P.length = p := by
  obtain ⟨a1, a2, a3, a4, a5, a6, a7, a8, a9, a10, a11, a12⟩ := H
  have l : x 57 33 = P.length + 1 := by rw [a5]; simp
  have q := a9.pop
  refine ⟨⟨a1.st rfl, fun j hj => by rw [hset_slot (by omega)]; exact a2 j hj, by rw [hset_slot (by decide)]; exact a3, by rw [hset_slot (by decide)]; exact a4, by rw [hset_same, l]; omega, by rw [hset_slot (by decide)]; exact a6, by rw [hset_slot (by decide)]; exact a7, by rw [hset_slot (by decide)]; exact a8, q.1.eq (h57 (by decide)), a10.eq (h57 (by decide)), fun j hj => by rw [h57 (by decide)]; exact a11 j hj, a12.eq (h57 (by decide))⟩, l, ?_⟩
  have := q.2
  rwa [Nat.zero_add] at this
theorem MS.push (H : MS g base A P T O S C x) (p : Int) : MS g base A (p :: P) T O S C (hset (hset x 78 (x 57 33).toNat p) 57 33 (x 57 33 + 1)) := by
  obtain ⟨a1, a2, a3, a4, a5, a6, a7, a8, a9, a10, a11, a12⟩ := H
  have o : ∀ j : Nat, j ≠ 33 → hset (hset x 78 (x 57 33).toNat p) 57 33 (x 57 33 + 1) 57 j = x 57 j := fun j hj => by rw [hset_slot hj, hset_cell (by decide)]
  have r : ∀ k : Nat, k ≠ 57 → k ≠ 78 → hset (hset x 78 (x 57 33).toNat p) 57 33 (x 57 33 + 1) k = x k := fun k h1 h2 => by rw [hset_other k h1, hset_other k h2]
  refine ⟨(a1.st rfl).st rfl, fun j hj => by rw [o j (by omega)]; exact a2 j hj, by rw [o _ (by decide)]; exact a3, by rw [o _ (by decide)]; exact a4, by rw [hset_same, a5]; simp, by rw [o _ (by decide)]; exact a6, by rw [o _ (by decide)]; exact a7, by rw [o _ (by decide)]; exact a8, ?_, a10.eq (r _ (by decide) (by decide)), fun j hj => by rw [r _ (by decide) (by decide)]; exact a11 j hj, a12.eq (r _ (by decide) (by decide))⟩
  refine a9.push (v := p) (fun j => ?_)
  rw [h57 (by decide), hrow, a5]
  simp
theorem MS.emit (H : MS g base A P T O S C x) (p : Int) : MS g base A P (p :: T) O S C (hset (hset x 76 (x 57 32).toNat p) 57 32 (x 57 32 + 1)) := by
  obtain ⟨a1, a2, a3, a4, a5, a6, a7, a8, a9, a10, a11, a12⟩ := H
  have o : ∀ j : Nat, j ≠ 32 → hset (hset x 76 (x 57 32).toNat p) 57 32 (x 57 32 + 1) 57 j = x 57 j := fun j hj => by rw [hset_slot hj, hset_cell (by decide)]
  have r : ∀ k : Nat, k ≠ 57 → k ≠ 76 → hset (hset x 76 (x 57 32).toNat p) 57 32 (x 57 32 + 1) k = x k := fun k h1 h2 => by rw [hset_other k h1, hset_other k h2]
  have e : (x 57 32).toNat = base + T.length := by rw [a4]; omega
  refine ⟨(a1.st rfl).st rfl, fun j hj => by rw [o j (by omega)]; exact a2 j hj, by rw [o _ (by decide)]; exact a3, by rw [hset_same, a4]; simp only [List.length_cons]; push_cast; omega, by rw [o _ (by decide)]; exact a5, by rw [o _ (by decide)]; exact a6, by rw [o _ (by decide)]; exact a7, by rw [o _ (by decide)]; exact a8, a9.eq (r _ (by decide) (by decide)), ?_, fun j hj => ?_, a12.eq (r _ (by decide) (by decide))⟩
  · refine a10.push (v := p) (fun j => ?_)
    rw [h57 (by decide), hrow, e]
  · rw [h57 (by decide), hrow, e]
    simp only
    rw [if_neg (by omega)]
    exact a11 j hj
/-- a new ( : not compared yet -/
theorem MS.spush (H : MS g base A P T O S C x) (v : Int) : MS g base A P T O (v :: S) C (hset (hset x 57 35 (x 57 35 + 1)) 79 (x 57 35 + 1).toNat v) := by
  obtain ⟨a1, a2, a3, a4, a5, a6, a7, a8, a9, a10, a11, a12⟩ := H
  have o : ∀ j : Nat, j ≠ 35 → hset (hset x 57 35 (x 57 35 + 1)) 79 (x 57 35 + 1).toNat v 57 j = x 57 j := fun j hj => by rw [hset_cell (by decide), hset_slot hj]
  have r : ∀ k : Nat, k ≠ 57 → k ≠ 79 → hset (hset x 57 35 (x 57 35 + 1)) 79 (x 57 35 + 1).toNat v k = x k := fun k h1 h2 => by rw [hset_other k h2, hset_other k h1]
  refine ⟨(a1.st rfl).st rfl, fun j hj => by rw [o j (by omega)]; exact a2 j hj, by rw [o _ (by decide)]; exact a3, by rw [o _ (by decide)]; exact a4, by rw [o _ (by decide)]; exact a5, by rw [o _ (by decide)]; exact a6, by rw [hset_cell (by decide), hset_same, a7]; simp, by rw [o _ (by decide)]; exact a8, a9.eq (r _ (by decide) (by decide)), a10.eq (r _ (by decide) (by decide)), fun j hj => by rw [r _ (by decide) (by decide)]; exact a11 j hj, ?_⟩
  refine a12.push (v := v) (fun j => ?_)
  rw [hrow, hset_other 79 (by decide), a7]
  simp
theorem MS.spop {s : Int} (H : MS g base A P T O (s :: S) C x) : MS g base A P T O S C (hset x 57 35 (x 57 35 - 1)) := by
  obtain ⟨a1, a2, a3, a4, a5, a6, a7, a8, a9, a10, a11, a12⟩ := H
  simp only [List.length_cons] at a7
  exact ⟨a1.st rfl, fun j hj => by rw [hset_slot (by omega)]; exact a2 j hj, by rw [hset_slot (by decide)]; exact a3, by rw [hset_slot (by decide)]; exact a4, by rw [hset_slot (by decide)]; exact a5, by rw [hset_slot (by decide)]; exact a6, by rw [hset_same]; push_cast at a7; omega, by rw [hset_slot (by decide)]; exact a8, a9.eq (h57 (by decide)), a10.eq (h57 (by decide)), fun j hj => by rw [h57 (by decide)]; exact a11 j hj, a12.pop.1.eq (h57 (by decide))⟩
theorem MS.stop {s : Int} (H : MS g base A P T O (s :: S) C x) : x 57 35 = S.length ∧ x 79 S.length = s := by
  obtain ⟨a1, a2, a3, a4, a5, a6, a7, a8, a9, a10, a11, a12⟩ := H
  have q := a12.pop.2
  rw [Nat.zero_add] at q
  simp only [List.length_cons] at a7
  exact ⟨by push_cast at a7; omega, q⟩
/-- the top of the comparisons is set -/
theorem MS.sset {s : Int} (H : MS g base A P T O (s :: S) C x) (v : Int) {i : Nat} (hi : i = S.length) : MS g base A P T O (v :: S) C (hset x 79 i v) := by
  have st := H.stop
  obtain ⟨a1, a2, a3, a4, a5, a6, a7, a8, a9, a10, a11, a12⟩ := H
  subst hi
  refine ⟨a1.st rfl, fun j hj => by rw [hset_cell (by decide)]; exact a2 j hj, by rw [hset_cell (by decide)]; exact a3, by rw [hset_cell (by decide)]; exact a4, by rw [hset_cell (by decide)]; exact a5, by rw [hset_cell (by decide)]; exact a6, by rw [hset_cell (by decide), a7]; simp, by rw [hset_cell (by decide)]; exact a8, a9.eq (hset_other _ (by decide)), a10.eq (hset_other _ (by decide)), fun j hj => by rw [hset_other 76 (by decide)]; exact a11 j hj, ?_⟩
  refine a12.pop.1.push (v := v) (fun j => ?_)
  rw [hrow, Nat.zero_add]
end MSS
def strF (p : Int) : Int := if p = 124 then 1 else if p = 38 then 2 else if p = 60 ∨ p = 61 ∨ p = 62 then 3 else if p = 43 ∨ p = 45 then 4 else if p = 42 ∨ p = 47 ∨ p = 37 then 5 else 0
theorem strF_in (p : Int) : 0 ≤ strF p ∧ strF p ≤ 5 := by unfold strF; (repeat' split) <;> omega
abbrev nmP (b : Int) : Prop := b = 102 ∨ b = 116 ∨ b = 115 ∨ b = 121 ∨ b = 112 ∨ b = 110 ∨ b = 103 ∨ b = 107 ∨ b = 122
def stl (s : Int) : List Int → List Int → List Int × List Int
  | [], T => ([], T)
  | p :: P, T => if p ≠ 40 ∧ s ≤ strF p then stl s P (p :: T) else (p :: P, T)
def bnd : List Int → List Int → Int → List Int × (List Int × Int)
  | [], T, O => ([], (T, O))
  | p :: P, T, O => if p = 33 ∨ p = 95 then bnd P (p :: T) (O - 1) else (p :: P, (T, O))
def cU : List Int → Nat
  | [] => 0
  | p :: P => (if p = 33 ∨ p = 95 ∨ p = 40 then 1 else 0) + cU P
def cP : List Int → Nat
  | [] => 0
  | p :: P => (if p = 40 then 1 else 0) + cP P
theorem stl_in (s : Int) : ∀ P T : List Int, (stl s P T).1.length + (stl s P T).2.length = P.length + T.length ∧ cP (stl s P T).1 = cP P ∧ cU (stl s P T).1 ≤ cU P
  | [], T => ⟨rfl, rfl, Nat.le_refl _⟩
  | p :: P, T => by
    unfold stl
    split
    · rename_i z
      have q := stl_in s P (p :: T)
      simp only [List.length_cons] at q ⊢
      refine ⟨by omega, ?_, ?_⟩
      · rw [q.2.1, show cP (p :: P) = (if p = 40 then 1 else 0) + cP P from rfl, if_neg z.1]; omega
      · have : cU (p :: P) = (if p = 33 ∨ p = 95 ∨ p = 40 then 1 else 0) + cU P := rfl
        omega
    · exact ⟨rfl, rfl, Nat.le_refl _⟩
theorem stl_0 : ∀ P T : List Int, (stl 0 P T).1 = [] ∨ ∃ Q, (stl 0 P T).1 = 40 :: Q
  | [], T => Or.inl rfl
  | p :: P, T => by
    unfold stl
    split
    · exact stl_0 P (p :: T)
    · rename_i z
      have := strF_in p
      have e : p = 40 := Classical.byContradiction fun y => z ⟨y, this.1⟩
      exact Or.inr ⟨P, by rw [e]⟩
theorem bnd_in : ∀ (P T : List Int) (O : Int), (bnd P T O).1.length + (bnd P T O).2.1.length = P.length + T.length ∧ cP (bnd P T O).1 = cP P ∧ (bnd P T O).2.2 - cU (bnd P T O).1 = O - cU P ∧ cU (bnd P T O).1 ≤ cU P
  | [], T, O => ⟨rfl, rfl, rfl, Nat.le_refl _⟩
  | p :: P, T, O => by
    unfold bnd
    split
    · rename_i z
      have q := bnd_in P (p :: T) (O - 1)
      have e : cU (p :: P) = 1 + cU P := by show (if _ then 1 else 0) + cU P = _; rw [if_pos (by omega)]
      have e2 : cP (p :: P) = cP P := by show (if _ then 1 else 0) + cP P = _; rw [if_neg (by omega)]; omega
      simp only [List.length_cons] at q ⊢
      rw [e, e2]
      refine ⟨by omega, q.2.1, ?_, by omega⟩
      push_cast
      omega
    · exact ⟨rfl, rfl, rfl, Nat.le_refl _⟩
set_option maxRecDepth 100000 in
set_option maxHeartbeats 4000000 in
theorem c_X12_strength {K : KT} {dep : Nat} {h : Hp} {a : Int}  (q0 : inI a) : AM K yX12_strength cX12_strength 1 (some .int) dep [vI a] h (some (vI (strF a))) (h) := by
  refine AM.of (own := RX12) (ls := [some (vI a)]) rfl (by decide +kernel) (by exact Nat.le_of_ble_eq_true rfl) rfl (fun hO => ?_)
  refine AW.iload_n (pc' := 1) dX12_strength_0 rfl ?_
  by_cases s1_0 : a = 37
  · refine AW.top s1_0 ?_
    refine AW.lookup (tgt := 100) (off := 99) dX12_strength_1 (by decide) (by decide) (by decide +kernel) ?_ (by decide)
    refine AW.iconst (pc' := 101) dX12_strength_100 ?_
    refine AW.iret dX12_strength_101 ?_ ?_
    · refine congrArg (fun z : Int => (some (vI z) : Option AV)) ?_
      unfold strF
      (repeat' split) <;> first | rfl | omega
    · rfl
  by_cases s1_1 : a = 38
  · refine AW.top s1_1 ?_
    refine AW.lookup (tgt := 94) (off := 93) dX12_strength_1 (by decide) (by decide) (by decide +kernel) ?_ (by decide)
    refine AW.iconst (pc' := 95) dX12_strength_94 ?_
    refine AW.iret dX12_strength_95 ?_ ?_
    · refine congrArg (fun z : Int => (some (vI z) : Option AV)) ?_
      unfold strF
      (repeat' split) <;> first | rfl | omega
    · rfl
  by_cases s1_2 : a = 42
  · refine AW.top s1_2 ?_
    refine AW.lookup (tgt := 100) (off := 99) dX12_strength_1 (by decide) (by decide) (by decide +kernel) ?_ (by decide)
    refine AW.iconst (pc' := 101) dX12_strength_100 ?_
    refine AW.iret dX12_strength_101 ?_ ?_
    · refine congrArg (fun z : Int => (some (vI z) : Option AV)) ?_
      unfold strF
      (repeat' split) <;> first | rfl | omega
    · rfl
  by_cases s1_3 : a = 43
  · refine AW.top s1_3 ?_
    refine AW.lookup (tgt := 98) (off := 97) dX12_strength_1 (by decide) (by decide) (by decide +kernel) ?_ (by decide)
    refine AW.iconst (pc' := 99) dX12_strength_98 ?_
    refine AW.iret dX12_strength_99 ?_ ?_
    · refine congrArg (fun z : Int => (some (vI z) : Option AV)) ?_
      unfold strF
      (repeat' split) <;> first | rfl | omega
    · rfl
  by_cases s1_4 : a = 45
  · refine AW.top s1_4 ?_
    refine AW.lookup (tgt := 98) (off := 97) dX12_strength_1 (by decide) (by decide) (by decide +kernel) ?_ (by decide)
    refine AW.iconst (pc' := 99) dX12_strength_98 ?_
    refine AW.iret dX12_strength_99 ?_ ?_
    · refine congrArg (fun z : Int => (some (vI z) : Option AV)) ?_
      unfold strF
      (repeat' split) <;> first | rfl | omega
    · rfl
  by_cases s1_5 : a = 47
  · refine AW.top s1_5 ?_
    refine AW.lookup (tgt := 100) (off := 99) dX12_strength_1 (by decide) (by decide) (by decide +kernel) ?_ (by decide)
    refine AW.iconst (pc' := 101) dX12_strength_100 ?_
    refine AW.iret dX12_strength_101 ?_ ?_
    · refine congrArg (fun z : Int => (some (vI z) : Option AV)) ?_
      unfold strF
      (repeat' split) <;> first | rfl | omega
    · rfl
  by_cases s1_6 : a = 60
  · refine AW.top s1_6 ?_
    refine AW.lookup (tgt := 96) (off := 95) dX12_strength_1 (by decide) (by decide) (by decide +kernel) ?_ (by decide)
    refine AW.iconst (pc' := 97) dX12_strength_96 ?_
    refine AW.iret dX12_strength_97 ?_ ?_
    · refine congrArg (fun z : Int => (some (vI z) : Option AV)) ?_
      unfold strF
      (repeat' split) <;> first | rfl | omega
    · rfl
  by_cases s1_7 : a = 61
  · refine AW.top s1_7 ?_
    refine AW.lookup (tgt := 96) (off := 95) dX12_strength_1 (by decide) (by decide) (by decide +kernel) ?_ (by decide)
    refine AW.iconst (pc' := 97) dX12_strength_96 ?_
    refine AW.iret dX12_strength_97 ?_ ?_
    · refine congrArg (fun z : Int => (some (vI z) : Option AV)) ?_
      unfold strF
      (repeat' split) <;> first | rfl | omega
    · rfl
  by_cases s1_8 : a = 62
  · refine AW.top s1_8 ?_
    refine AW.lookup (tgt := 96) (off := 95) dX12_strength_1 (by decide) (by decide) (by decide +kernel) ?_ (by decide)
    refine AW.iconst (pc' := 97) dX12_strength_96 ?_
    refine AW.iret dX12_strength_97 ?_ ?_
    · refine congrArg (fun z : Int => (some (vI z) : Option AV)) ?_
      unfold strF
      (repeat' split) <;> first | rfl | omega
    · rfl
  by_cases s1_9 : a = 124
  · refine AW.top s1_9 ?_
    refine AW.lookup (tgt := 92) (off := 91) dX12_strength_1 (by decide) (by decide) (by decide +kernel) ?_ (by decide)
    refine AW.iconst (pc' := 93) dX12_strength_92 ?_
    refine AW.iret dX12_strength_93 ?_ ?_
    · refine congrArg (fun z : Int => (some (vI z) : Option AV)) ?_
      unfold strF
      (repeat' split) <;> first | rfl | omega
    · rfl
  refine AW.lookup (tgt := 102) (off := 101) dX12_strength_1 (by first | assumption | omega | (constructor <;> omega) | (simp only [Int.toNat_natCast]; omega) | exact b2_in _) (by decide) (by simp [Op.lookupswitch.offset_cons, Ne.symm s1_0, Ne.symm s1_1, Ne.symm s1_2, Ne.symm s1_3, Ne.symm s1_4, Ne.symm s1_5, Ne.symm s1_6, Ne.symm s1_7, Ne.symm s1_8, Ne.symm s1_9, s1_0, s1_1, s1_2, s1_3, s1_4, s1_5, s1_6, s1_7, s1_8, s1_9]; try rfl) ?_ (by decide)
  refine AW.iconst (pc' := 103) dX12_strength_102 ?_
  refine AW.iret dX12_strength_103 ?_ ?_
  · refine congrArg (fun z : Int => (some (vI z) : Option AV)) ?_
    unfold strF
    (repeat' split) <;> first | rfl | omega
  · rfl
set_option maxRecDepth 100000 in
set_option maxHeartbeats 4000000 in
theorem c_X12_isName {K : KT} {dep : Nat} {h : Hp} {a : Int}  (q0 : inI a) : AM K yX12_isName cX12_isName 1 (some .boolean) dep [vI a] h (some (vI (b2 (nmP a)))) (h) := by
  refine AM.of (own := RX12) (ls := [some (vI a)]) rfl (by decide +kernel) (by exact Nat.le_of_ble_eq_true rfl) rfl (fun hO => ?_)
  refine AW.iload_n (pc' := 1) dX12_isName_0 rfl ?_
  by_cases s1_0 : a = 102
  · refine AW.top s1_0 ?_
    refine AW.tableIn (tgt := 100) (off := 99) dX12_isName_1 (by decide) (by decide) (by decide) rfl ?_
    refine AW.iconst (pc' := 101) dX12_isName_100 ?_
    refine AW.zret dX12_isName_101 ?_ ?_ (by first | exact Or.inl rfl | exact Or.inr rfl | exact b2_01 _ | assumption | (subst_vars; omega))
    · first | exact congrArg (fun z : Int => (some (vI z) : Option AV)) (b2_t (by omega)) | exact congrArg (fun z : Int => (some (vI z) : Option AV)) (b2_f (by omega)) | exact congrArg (fun z : Int => (some (vI z) : Option AV)) (b2_t (by omega)).symm | exact congrArg (fun z : Int => (some (vI z) : Option AV)) (b2_f (by omega)).symm
    · rfl
  by_cases s1_1 : a = 103
  · refine AW.top s1_1 ?_
    refine AW.tableIn (tgt := 100) (off := 99) dX12_isName_1 (by decide) (by decide) (by decide) rfl ?_
    refine AW.iconst (pc' := 101) dX12_isName_100 ?_
    refine AW.zret dX12_isName_101 ?_ ?_ (by first | exact Or.inl rfl | exact Or.inr rfl | exact b2_01 _ | assumption | (subst_vars; omega))
    · first | exact congrArg (fun z : Int => (some (vI z) : Option AV)) (b2_t (by omega)) | exact congrArg (fun z : Int => (some (vI z) : Option AV)) (b2_f (by omega)) | exact congrArg (fun z : Int => (some (vI z) : Option AV)) (b2_t (by omega)).symm | exact congrArg (fun z : Int => (some (vI z) : Option AV)) (b2_f (by omega)).symm
    · rfl
  by_cases s1_5 : a = 107
  · refine AW.top s1_5 ?_
    refine AW.tableIn (tgt := 100) (off := 99) dX12_isName_1 (by decide) (by decide) (by decide) rfl ?_
    refine AW.iconst (pc' := 101) dX12_isName_100 ?_
    refine AW.zret dX12_isName_101 ?_ ?_ (by first | exact Or.inl rfl | exact Or.inr rfl | exact b2_01 _ | assumption | (subst_vars; omega))
    · first | exact congrArg (fun z : Int => (some (vI z) : Option AV)) (b2_t (by omega)) | exact congrArg (fun z : Int => (some (vI z) : Option AV)) (b2_f (by omega)) | exact congrArg (fun z : Int => (some (vI z) : Option AV)) (b2_t (by omega)).symm | exact congrArg (fun z : Int => (some (vI z) : Option AV)) (b2_f (by omega)).symm
    · rfl
  by_cases s1_8 : a = 110
  · refine AW.top s1_8 ?_
    refine AW.tableIn (tgt := 100) (off := 99) dX12_isName_1 (by decide) (by decide) (by decide) rfl ?_
    refine AW.iconst (pc' := 101) dX12_isName_100 ?_
    refine AW.zret dX12_isName_101 ?_ ?_ (by first | exact Or.inl rfl | exact Or.inr rfl | exact b2_01 _ | assumption | (subst_vars; omega))
    · first | exact congrArg (fun z : Int => (some (vI z) : Option AV)) (b2_t (by omega)) | exact congrArg (fun z : Int => (some (vI z) : Option AV)) (b2_f (by omega)) | exact congrArg (fun z : Int => (some (vI z) : Option AV)) (b2_t (by omega)).symm | exact congrArg (fun z : Int => (some (vI z) : Option AV)) (b2_f (by omega)).symm
    · rfl
  by_cases s1_10 : a = 112
  · refine AW.top s1_10 ?_
    refine AW.tableIn (tgt := 100) (off := 99) dX12_isName_1 (by decide) (by decide) (by decide) rfl ?_
    refine AW.iconst (pc' := 101) dX12_isName_100 ?_
    refine AW.zret dX12_isName_101 ?_ ?_ (by first | exact Or.inl rfl | exact Or.inr rfl | exact b2_01 _ | assumption | (subst_vars; omega))
    · first | exact congrArg (fun z : Int => (some (vI z) : Option AV)) (b2_t (by omega)) | exact congrArg (fun z : Int => (some (vI z) : Option AV)) (b2_f (by omega)) | exact congrArg (fun z : Int => (some (vI z) : Option AV)) (b2_t (by omega)).symm | exact congrArg (fun z : Int => (some (vI z) : Option AV)) (b2_f (by omega)).symm
    · rfl
  by_cases s1_13 : a = 115
  · refine AW.top s1_13 ?_
    refine AW.tableIn (tgt := 100) (off := 99) dX12_isName_1 (by decide) (by decide) (by decide) rfl ?_
    refine AW.iconst (pc' := 101) dX12_isName_100 ?_
    refine AW.zret dX12_isName_101 ?_ ?_ (by first | exact Or.inl rfl | exact Or.inr rfl | exact b2_01 _ | assumption | (subst_vars; omega))
    · first | exact congrArg (fun z : Int => (some (vI z) : Option AV)) (b2_t (by omega)) | exact congrArg (fun z : Int => (some (vI z) : Option AV)) (b2_f (by omega)) | exact congrArg (fun z : Int => (some (vI z) : Option AV)) (b2_t (by omega)).symm | exact congrArg (fun z : Int => (some (vI z) : Option AV)) (b2_f (by omega)).symm
    · rfl
  by_cases s1_14 : a = 116
  · refine AW.top s1_14 ?_
    refine AW.tableIn (tgt := 100) (off := 99) dX12_isName_1 (by decide) (by decide) (by decide) rfl ?_
    refine AW.iconst (pc' := 101) dX12_isName_100 ?_
    refine AW.zret dX12_isName_101 ?_ ?_ (by first | exact Or.inl rfl | exact Or.inr rfl | exact b2_01 _ | assumption | (subst_vars; omega))
    · first | exact congrArg (fun z : Int => (some (vI z) : Option AV)) (b2_t (by omega)) | exact congrArg (fun z : Int => (some (vI z) : Option AV)) (b2_f (by omega)) | exact congrArg (fun z : Int => (some (vI z) : Option AV)) (b2_t (by omega)).symm | exact congrArg (fun z : Int => (some (vI z) : Option AV)) (b2_f (by omega)).symm
    · rfl
  by_cases s1_19 : a = 121
  · refine AW.top s1_19 ?_
    refine AW.tableIn (tgt := 100) (off := 99) dX12_isName_1 (by decide) (by decide) (by decide) rfl ?_
    refine AW.iconst (pc' := 101) dX12_isName_100 ?_
    refine AW.zret dX12_isName_101 ?_ ?_ (by first | exact Or.inl rfl | exact Or.inr rfl | exact b2_01 _ | assumption | (subst_vars; omega))
    · first | exact congrArg (fun z : Int => (some (vI z) : Option AV)) (b2_t (by omega)) | exact congrArg (fun z : Int => (some (vI z) : Option AV)) (b2_f (by omega)) | exact congrArg (fun z : Int => (some (vI z) : Option AV)) (b2_t (by omega)).symm | exact congrArg (fun z : Int => (some (vI z) : Option AV)) (b2_f (by omega)).symm
    · rfl
  by_cases s1_20 : a = 122
  · refine AW.top s1_20 ?_
    refine AW.tableIn (tgt := 100) (off := 99) dX12_isName_1 (by decide) (by decide) (by decide) rfl ?_
    refine AW.iconst (pc' := 101) dX12_isName_100 ?_
    refine AW.zret dX12_isName_101 ?_ ?_ (by first | exact Or.inl rfl | exact Or.inr rfl | exact b2_01 _ | assumption | (subst_vars; omega))
    · first | exact congrArg (fun z : Int => (some (vI z) : Option AV)) (b2_t (by omega)) | exact congrArg (fun z : Int => (some (vI z) : Option AV)) (b2_f (by omega)) | exact congrArg (fun z : Int => (some (vI z) : Option AV)) (b2_t (by omega)).symm | exact congrArg (fun z : Int => (some (vI z) : Option AV)) (b2_f (by omega)).symm
    · rfl
  by_cases s1_2 : a = 104
  · refine AW.top s1_2 ?_
    refine AW.tableIn (tgt := 102) (off := 101) dX12_isName_1 (by decide) (by decide) (by decide) rfl ?_
    refine AW.iconst (pc' := 103) dX12_isName_102 ?_
    refine AW.zret dX12_isName_103 ?_ ?_ (by first | exact Or.inl rfl | exact Or.inr rfl | exact b2_01 _ | assumption | (subst_vars; omega))
    · first | exact congrArg (fun z : Int => (some (vI z) : Option AV)) (b2_t (by omega)) | exact congrArg (fun z : Int => (some (vI z) : Option AV)) (b2_f (by omega)) | exact congrArg (fun z : Int => (some (vI z) : Option AV)) (b2_t (by omega)).symm | exact congrArg (fun z : Int => (some (vI z) : Option AV)) (b2_f (by omega)).symm
    · rfl
  by_cases s1_3 : a = 105
  · refine AW.top s1_3 ?_
    refine AW.tableIn (tgt := 102) (off := 101) dX12_isName_1 (by decide) (by decide) (by decide) rfl ?_
    refine AW.iconst (pc' := 103) dX12_isName_102 ?_
    refine AW.zret dX12_isName_103 ?_ ?_ (by first | exact Or.inl rfl | exact Or.inr rfl | exact b2_01 _ | assumption | (subst_vars; omega))
    · first | exact congrArg (fun z : Int => (some (vI z) : Option AV)) (b2_t (by omega)) | exact congrArg (fun z : Int => (some (vI z) : Option AV)) (b2_f (by omega)) | exact congrArg (fun z : Int => (some (vI z) : Option AV)) (b2_t (by omega)).symm | exact congrArg (fun z : Int => (some (vI z) : Option AV)) (b2_f (by omega)).symm
    · rfl
  by_cases s1_4 : a = 106
  · refine AW.top s1_4 ?_
    refine AW.tableIn (tgt := 102) (off := 101) dX12_isName_1 (by decide) (by decide) (by decide) rfl ?_
    refine AW.iconst (pc' := 103) dX12_isName_102 ?_
    refine AW.zret dX12_isName_103 ?_ ?_ (by first | exact Or.inl rfl | exact Or.inr rfl | exact b2_01 _ | assumption | (subst_vars; omega))
    · first | exact congrArg (fun z : Int => (some (vI z) : Option AV)) (b2_t (by omega)) | exact congrArg (fun z : Int => (some (vI z) : Option AV)) (b2_f (by omega)) | exact congrArg (fun z : Int => (some (vI z) : Option AV)) (b2_t (by omega)).symm | exact congrArg (fun z : Int => (some (vI z) : Option AV)) (b2_f (by omega)).symm
    · rfl
  by_cases s1_6 : a = 108
  · refine AW.top s1_6 ?_
    refine AW.tableIn (tgt := 102) (off := 101) dX12_isName_1 (by decide) (by decide) (by decide) rfl ?_
    refine AW.iconst (pc' := 103) dX12_isName_102 ?_
    refine AW.zret dX12_isName_103 ?_ ?_ (by first | exact Or.inl rfl | exact Or.inr rfl | exact b2_01 _ | assumption | (subst_vars; omega))
    · first | exact congrArg (fun z : Int => (some (vI z) : Option AV)) (b2_t (by omega)) | exact congrArg (fun z : Int => (some (vI z) : Option AV)) (b2_f (by omega)) | exact congrArg (fun z : Int => (some (vI z) : Option AV)) (b2_t (by omega)).symm | exact congrArg (fun z : Int => (some (vI z) : Option AV)) (b2_f (by omega)).symm
    · rfl
  by_cases s1_7 : a = 109
  · refine AW.top s1_7 ?_
    refine AW.tableIn (tgt := 102) (off := 101) dX12_isName_1 (by decide) (by decide) (by decide) rfl ?_
    refine AW.iconst (pc' := 103) dX12_isName_102 ?_
    refine AW.zret dX12_isName_103 ?_ ?_ (by first | exact Or.inl rfl | exact Or.inr rfl | exact b2_01 _ | assumption | (subst_vars; omega))
    · first | exact congrArg (fun z : Int => (some (vI z) : Option AV)) (b2_t (by omega)) | exact congrArg (fun z : Int => (some (vI z) : Option AV)) (b2_f (by omega)) | exact congrArg (fun z : Int => (some (vI z) : Option AV)) (b2_t (by omega)).symm | exact congrArg (fun z : Int => (some (vI z) : Option AV)) (b2_f (by omega)).symm
    · rfl
  by_cases s1_9 : a = 111
  · refine AW.top s1_9 ?_
    refine AW.tableIn (tgt := 102) (off := 101) dX12_isName_1 (by decide) (by decide) (by decide) rfl ?_
    refine AW.iconst (pc' := 103) dX12_isName_102 ?_
    refine AW.zret dX12_isName_103 ?_ ?_ (by first | exact Or.inl rfl | exact Or.inr rfl | exact b2_01 _ | assumption | (subst_vars; omega))
    · first | exact congrArg (fun z : Int => (some (vI z) : Option AV)) (b2_t (by omega)) | exact congrArg (fun z : Int => (some (vI z) : Option AV)) (b2_f (by omega)) | exact congrArg (fun z : Int => (some (vI z) : Option AV)) (b2_t (by omega)).symm | exact congrArg (fun z : Int => (some (vI z) : Option AV)) (b2_f (by omega)).symm
    · rfl
  by_cases s1_11 : a = 113
  · refine AW.top s1_11 ?_
    refine AW.tableIn (tgt := 102) (off := 101) dX12_isName_1 (by decide) (by decide) (by decide) rfl ?_
    refine AW.iconst (pc' := 103) dX12_isName_102 ?_
    refine AW.zret dX12_isName_103 ?_ ?_ (by first | exact Or.inl rfl | exact Or.inr rfl | exact b2_01 _ | assumption | (subst_vars; omega))
    · first | exact congrArg (fun z : Int => (some (vI z) : Option AV)) (b2_t (by omega)) | exact congrArg (fun z : Int => (some (vI z) : Option AV)) (b2_f (by omega)) | exact congrArg (fun z : Int => (some (vI z) : Option AV)) (b2_t (by omega)).symm | exact congrArg (fun z : Int => (some (vI z) : Option AV)) (b2_f (by omega)).symm
    · rfl
  by_cases s1_12 : a = 114
  · refine AW.top s1_12 ?_
    refine AW.tableIn (tgt := 102) (off := 101) dX12_isName_1 (by decide) (by decide) (by decide) rfl ?_
    refine AW.iconst (pc' := 103) dX12_isName_102 ?_
    refine AW.zret dX12_isName_103 ?_ ?_ (by first | exact Or.inl rfl | exact Or.inr rfl | exact b2_01 _ | assumption | (subst_vars; omega))
    · first | exact congrArg (fun z : Int => (some (vI z) : Option AV)) (b2_t (by omega)) | exact congrArg (fun z : Int => (some (vI z) : Option AV)) (b2_f (by omega)) | exact congrArg (fun z : Int => (some (vI z) : Option AV)) (b2_t (by omega)).symm | exact congrArg (fun z : Int => (some (vI z) : Option AV)) (b2_f (by omega)).symm
    · rfl
  by_cases s1_15 : a = 117
  · refine AW.top s1_15 ?_
    refine AW.tableIn (tgt := 102) (off := 101) dX12_isName_1 (by decide) (by decide) (by decide) rfl ?_
    refine AW.iconst (pc' := 103) dX12_isName_102 ?_
    refine AW.zret dX12_isName_103 ?_ ?_ (by first | exact Or.inl rfl | exact Or.inr rfl | exact b2_01 _ | assumption | (subst_vars; omega))
    · first | exact congrArg (fun z : Int => (some (vI z) : Option AV)) (b2_t (by omega)) | exact congrArg (fun z : Int => (some (vI z) : Option AV)) (b2_f (by omega)) | exact congrArg (fun z : Int => (some (vI z) : Option AV)) (b2_t (by omega)).symm | exact congrArg (fun z : Int => (some (vI z) : Option AV)) (b2_f (by omega)).symm
    · rfl
  by_cases s1_16 : a = 118
  · refine AW.top s1_16 ?_
    refine AW.tableIn (tgt := 102) (off := 101) dX12_isName_1 (by decide) (by decide) (by decide) rfl ?_
    refine AW.iconst (pc' := 103) dX12_isName_102 ?_
    refine AW.zret dX12_isName_103 ?_ ?_ (by first | exact Or.inl rfl | exact Or.inr rfl | exact b2_01 _ | assumption | (subst_vars; omega))
    · first | exact congrArg (fun z : Int => (some (vI z) : Option AV)) (b2_t (by omega)) | exact congrArg (fun z : Int => (some (vI z) : Option AV)) (b2_f (by omega)) | exact congrArg (fun z : Int => (some (vI z) : Option AV)) (b2_t (by omega)).symm | exact congrArg (fun z : Int => (some (vI z) : Option AV)) (b2_f (by omega)).symm
    · rfl
  by_cases s1_17 : a = 119
  · refine AW.top s1_17 ?_
    refine AW.tableIn (tgt := 102) (off := 101) dX12_isName_1 (by decide) (by decide) (by decide) rfl ?_
    refine AW.iconst (pc' := 103) dX12_isName_102 ?_
    refine AW.zret dX12_isName_103 ?_ ?_ (by first | exact Or.inl rfl | exact Or.inr rfl | exact b2_01 _ | assumption | (subst_vars; omega))
    · first | exact congrArg (fun z : Int => (some (vI z) : Option AV)) (b2_t (by omega)) | exact congrArg (fun z : Int => (some (vI z) : Option AV)) (b2_f (by omega)) | exact congrArg (fun z : Int => (some (vI z) : Option AV)) (b2_t (by omega)).symm | exact congrArg (fun z : Int => (some (vI z) : Option AV)) (b2_f (by omega)).symm
    · rfl
  by_cases s1_18 : a = 120
  · refine AW.top s1_18 ?_
    refine AW.tableIn (tgt := 102) (off := 101) dX12_isName_1 (by decide) (by decide) (by decide) rfl ?_
    refine AW.iconst (pc' := 103) dX12_isName_102 ?_
    refine AW.zret dX12_isName_103 ?_ ?_ (by first | exact Or.inl rfl | exact Or.inr rfl | exact b2_01 _ | assumption | (subst_vars; omega))
    · first | exact congrArg (fun z : Int => (some (vI z) : Option AV)) (b2_t (by omega)) | exact congrArg (fun z : Int => (some (vI z) : Option AV)) (b2_f (by omega)) | exact congrArg (fun z : Int => (some (vI z) : Option AV)) (b2_t (by omega)).symm | exact congrArg (fun z : Int => (some (vI z) : Option AV)) (b2_f (by omega)).symm
    · rfl
  refine AW.tableOut (tgt := 102) dX12_isName_1 (by first | assumption | omega | (constructor <;> omega) | (simp only [Int.toNat_natCast]; omega) | exact b2_in _) (by omega) ?_
  refine AW.iconst (pc' := 103) dX12_isName_102 ?_
  refine AW.zret dX12_isName_103 ?_ ?_ (by first | exact Or.inl rfl | exact Or.inr rfl | exact b2_01 _ | assumption | (subst_vars; omega))
  · first | exact congrArg (fun z : Int => (some (vI z) : Option AV)) (b2_t (by omega)) | exact congrArg (fun z : Int => (some (vI z) : Option AV)) (b2_f (by omega)) | exact congrArg (fun z : Int => (some (vI z) : Option AV)) (b2_t (by omega)).symm | exact congrArg (fun z : Int => (some (vI z) : Option AV)) (b2_f (by omega)).symm
  · rfl
set_option maxRecDepth 100000 in
set_option maxHeartbeats 4000000 in
theorem lp_X12_settles {K : KT}  {dep : Nat} {g : Hp} {base : Nat} {A O C : Int} {S : List Int} {s : Int} (qs : inI s) (qb : base ≤ 600) (hd : 1 ≤ dep) : ∀ (P T : List Int) (h1 : Hp), MS g base A P T O S C h1 → P.length + T.length ≤ 130 → AW K (XP K none (fun x => MS g base A (stl s P T).1 (stl s P T).2 O S C x)) RX12 cX12_settles 2 none dep 0 [some (vR 57), some (vI (s))] [] h1 := by
  intro P
  induction P with
  | nil =>
    intro T h1 ms hl
    have l3 : h1 57 33 = 0 := ms.2.2.2.2.1
    refine AW.aload_n (pc' := 1) dX12_settles_0 rfl ?_
    refine AW.getI (pc' := 4) dX12_settles_1 ly_57 fX12_187 rfl (fun r1 => ?_)
    refine AW.if_le (tgt := 67) (pc' := 7) dX12_settles_4 (by first | assumption | omega | (constructor <;> omega) | (simp only [Int.toNat_natCast]; omega) | exact b2_in _) (fun c4 => ?_) (fun c4 => ?_)
    · refine AW.vret dX12_settles_67 ?_ ?_
      · rfl
      · exact ms
    · omega
  | cons p P ih =>
    intro T h1 ms hl
    obtain ⟨m3, l3, tp⟩ := ms.pop
    have ms2 := ms
    obtain ⟨a1, a2, a3, a4, a5, a6, a7, a8, -⟩ := ms2
    simp only [List.length_cons] at hl
    have ek : (h1 57 33 - 1).toNat = P.length := by omega
    have spp := strF_in p
    refine AW.aload_n (pc' := 1) dX12_settles_0 rfl ?_
    refine AW.getI (pc' := 4) dX12_settles_1 ly_57 fX12_187 rfl (fun r1 => ?_)
    try simp only [ek, tp] at r1 ⊢
    refine AW.if_le (tgt := 67) (pc' := 7) dX12_settles_4 (by first | assumption | omega | (constructor <;> omega) | (simp only [Int.toNat_natCast]; omega) | exact b2_in _) (fun c4 => ?_) (fun c4 => ?_)
    · omega
    · refine AW.aload_n (pc' := 8) dX12_settles_7 rfl ?_
      refine AW.getR (pc' := 11) dX12_settles_8 ly_57 fX12_74 rfl ?_
      refine AW.aload_n (pc' := 12) dX12_settles_11 rfl ?_
      refine AW.getI (pc' := 15) dX12_settles_12 ly_57 fX12_187 rfl (fun r12 => ?_)
      try simp only [ek, tp] at r12 ⊢
      refine AW.iconst (pc' := 16) dX12_settles_15 ?_
      refine AW.isub (pc' := 17) dX12_settles_16 ?_
      first | refine AW.ialdN (pc' := 18) dX12_settles_17 ly_78 (by first | assumption | omega | (constructor <;> omega) | (simp only [Int.toNat_natCast]; omega) | exact b2_in _) (by decide) (fun r17 => ?_) | refine AW.iald (pc' := 18) dX12_settles_17 ly_78 (by first | assumption | omega | (constructor <;> omega) | (simp only [Int.toNat_natCast]; omega) | exact b2_in _) (by first | assumption | omega | (constructor <;> omega) | (simp only [Int.toNat_natCast]; omega) | exact b2_in _) (by decide) (fun r17 => ?_)
      try simp only [ek, tp] at r17 ⊢
      refine AW.bipush (pc' := 20) dX12_settles_18 (by decide) ?_
      refine AW.icmp_eq (tgt := 67) (pc' := 23) dX12_settles_20 (by first | assumption | omega | (constructor <;> omega) | (simp only [Int.toNat_natCast]; omega) | exact b2_in _) (by first | assumption | omega | (constructor <;> omega) | (simp only [Int.toNat_natCast]; omega) | exact b2_in _) (fun c20 => ?_) (fun c20 => ?_)
      · refine AW.vret dX12_settles_67 ?_ ?_
        · rfl
        · unfold stl
          rw [if_neg (by omega)]
          exact ms
      · refine AW.aload_n (pc' := 24) dX12_settles_23 rfl ?_
        refine AW.getR (pc' := 27) dX12_settles_24 ly_57 fX12_74 rfl ?_
        refine AW.aload_n (pc' := 28) dX12_settles_27 rfl ?_
        refine AW.getI (pc' := 31) dX12_settles_28 ly_57 fX12_187 rfl (fun r28 => ?_)
        try simp only [ek, tp] at r28 ⊢
        refine AW.iconst (pc' := 32) dX12_settles_31 ?_
        refine AW.isub (pc' := 33) dX12_settles_32 ?_
        first | refine AW.ialdN (pc' := 34) dX12_settles_33 ly_78 (by first | assumption | omega | (constructor <;> omega) | (simp only [Int.toNat_natCast]; omega) | exact b2_in _) (by decide) (fun r33 => ?_) | refine AW.iald (pc' := 34) dX12_settles_33 ly_78 (by first | assumption | omega | (constructor <;> omega) | (simp only [Int.toNat_natCast]; omega) | exact b2_in _) (by first | assumption | omega | (constructor <;> omega) | (simp only [Int.toNat_natCast]; omega) | exact b2_in _) (by decide) (fun r33 => ?_)
        try simp only [ek, tp] at r33 ⊢
        refine AW.invS1 (pc' := 37) dX12_settles_34 mlX12_190 mX12_strength (c_X12_strength (dep := dep - 1) (by first | assumption | omega | (constructor <;> omega) | (simp only [Int.toNat_natCast]; omega) | exact b2_in _)) ?_
        try simp only [Int.toNat_natCast, ek, tp]
        refine AW.iload_n (pc' := 38) dX12_settles_37 rfl ?_
        skip
        refine AW.icmp_lt (tgt := 67) (pc' := 41) dX12_settles_38 (by first | assumption | omega | (constructor <;> omega) | (simp only [Int.toNat_natCast]; omega) | exact b2_in _) (by first | assumption | omega | (constructor <;> omega) | (simp only [Int.toNat_natCast]; omega) | exact b2_in _) (fun c38 => ?_) (fun c38 => ?_)
        · refine AW.vret dX12_settles_67 ?_ ?_
          · rfl
          · unfold stl
            rw [if_neg (by omega)]
            exact ms
        · refine AW.aload_n (pc' := 42) dX12_settles_41 rfl ?_
          refine AW.dup (pc' := 43) dX12_settles_42 rfl ?_
          refine AW.getI (pc' := 46) dX12_settles_43 ly_57 fX12_187 rfl (fun r43 => ?_)
          try simp only [ek, tp] at r43 ⊢
          refine AW.iconst (pc' := 47) dX12_settles_46 ?_
          refine AW.isub (pc' := 48) dX12_settles_47 ?_
          refine AW.putI (pc' := 51) dX12_settles_48 ly_57 pX12_187 rfl (by first | assumption | omega | (constructor <;> omega) | (simp only [Int.toNat_natCast]; omega) | exact b2_in _) ?_
          obtain ⟨h3, gh3⟩ : ∃ z, z = hset h1 57 33 (h1 57 33 - 1) := ⟨_, rfl⟩
          rw [← gh3] at m3 ⊢
          have t3 : h3 78 (h3 57 33).toNat = p := by rw [gh3, hset_same, hset_other 78 (by decide), ek, tp]
          have b3 := m3.2.2.2.1
          have b4 := m3.2.2.2.2.1
          refine AW.aload_n (pc' := 52) dX12_settles_51 rfl ?_
          refine AW.aload_n (pc' := 53) dX12_settles_52 rfl ?_
          refine AW.getR (pc' := 56) dX12_settles_53 ly_57 fX12_74 rfl ?_
          refine AW.aload_n (pc' := 57) dX12_settles_56 rfl ?_
          refine AW.getI (pc' := 60) dX12_settles_57 ly_57 fX12_187 rfl (fun r57 => ?_)
          try simp only [ek, tp] at r57 ⊢
          try simp only [hset_app, Nat.reduceEqDiff, false_and, and_false, true_and, and_true, reduceIte] at r57 ⊢
          first | refine AW.ialdN (pc' := 61) dX12_settles_60 ly_78 (by first | assumption | omega | (constructor <;> omega) | (simp only [Int.toNat_natCast]; omega) | exact b2_in _) (by decide) (fun r60 => ?_) | refine AW.iald (pc' := 61) dX12_settles_60 ly_78 (by first | assumption | omega | (constructor <;> omega) | (simp only [Int.toNat_natCast]; omega) | exact b2_in _) (by first | assumption | omega | (constructor <;> omega) | (simp only [Int.toNat_natCast]; omega) | exact b2_in _) (by decide) (fun r60 => ?_)
          try simp only [ek, tp] at r60 ⊢
          try simp only [hset_app, Nat.reduceEqDiff, false_and, and_false, true_and, and_true, reduceIte] at r60 ⊢
          refine AW.invV1v (pc' := 64) dX12_settles_61 mlX12_193 mX12_emits ly_57 rfl (c_X12_emits (dep := dep - 1) (by omega) (by omega)) ?_
          try simp only [Int.toNat_natCast, ek, tp]
          refine AW.goto (tgt := 0) dX12_settles_64 ?_
          rw [t3]
          have z : stl s (p :: P) T = stl s P (p :: T) := by
            conv => lhs; unfold stl
            rw [if_pos (by omega)]
          rw [z]
          exact AW.weak (ih (p :: T) _ (m3.emit p) (by simp only [List.length_cons]; omega)) (by (repeat' first | exact LSub.e | refine LSub.n ?_ | refine LSub.c ?_ ?_) <;> first | rfl | exact congrArg Sum.inl (by first | rfl | omega | omega) | exact congrArg (fun z : Int => (vL z : AV)) (by first | rfl | omega | omega))
set_option maxRecDepth 100000 in
set_option maxHeartbeats 4000000 in
theorem c_X12_settles {K : KT} {dep : Nat} {h : Hp} {g : Hp} {base : Nat} {A O C : Int} {S : List Int} {s : Int} {P T : List Int} (hd : 1 ≤ dep) (ms : MS g base A P T O S C h) (qb : base ≤ 600) (ql : P.length + T.length ≤ 130) (qs : inI s) : AMp K yX12_settles cX12_settles 2 none dep [vR 57, vI s] h none (fun x => MS g base A (stl s P T).1 (stl s P T).2 O S C x) := by
  refine AM.of (own := RX12) (ls := [some (vR 57), some (vI s)]) rfl (by decide +kernel) (by exact Nat.le_of_ble_eq_true rfl) rfl (fun hO => ?_)
  exact AW.weak (lp_X12_settles qs qb hd P T h ms ql) (by (repeat' first | exact LSub.e | refine LSub.n ?_ | refine LSub.c ?_ ?_) <;> first | rfl | exact congrArg Sum.inl (by first | rfl | omega | omega) | exact congrArg (fun z : Int => (vL z : AV)) (by first | rfl | omega | omega))
set_option maxRecDepth 100000 in
set_option maxHeartbeats 4000000 in
theorem lp_X12_binds {K : KT}  {dep : Nat} {g : Hp} {base : Nat} {A C : Int} {S : List Int} (qb : base ≤ 600) (hd : 1 ≤ dep) : ∀ (P T : List Int) (O : Int) (h1 : Hp), MS g base A P T O S C h1 → P.length + T.length ≤ 130 → (cU P : Int) ≤ O ∧ O ≤ 6 → AW K (XP K none (fun x => MS g base A (bnd P T O).1 (bnd P T O).2.1 (bnd P T O).2.2 S C x)) RX12 cX12_binds 1 none dep 0 [some (vR 57)] [] h1 := by
  intro P
  induction P with
  | nil =>
    intro T O h1 ms hl ho
    have l3 : h1 57 33 = 0 := ms.2.2.2.2.1
    refine AW.aload_n (pc' := 1) dX12_binds_0 rfl ?_
    refine AW.getI (pc' := 4) dX12_binds_1 ly_57 fX12_187 rfl (fun r1 => ?_)
    refine AW.if_le (tgt := 75) (pc' := 7) dX12_binds_4 (by first | assumption | omega | (constructor <;> omega) | (simp only [Int.toNat_natCast]; omega) | exact b2_in _) (fun c4 => ?_) (fun c4 => ?_)
    · refine AW.vret dX12_binds_75 ?_ ?_
      · rfl
      · exact ms
    · omega
  | cons p P ih =>
    intro T O h1 ms hl ho
    obtain ⟨m3, l3, tp⟩ := ms.pop
    have ms2 := ms
    obtain ⟨a1, a2, a3, a4, a5, a6, a7, a8, -⟩ := ms2
    simp only [List.length_cons] at hl
    have ek : (h1 57 33 - 1).toNat = P.length := by omega
    have spp := strF_in p
    have cu : cU (p :: P) = (if p = 33 ∨ p = 95 ∨ p = 40 then 1 else 0) + cU P := rfl
    refine AW.aload_n (pc' := 1) dX12_binds_0 rfl ?_
    refine AW.getI (pc' := 4) dX12_binds_1 ly_57 fX12_187 rfl (fun r1 => ?_)
    try simp only [ek, tp] at r1 ⊢
    refine AW.if_le (tgt := 75) (pc' := 7) dX12_binds_4 (by first | assumption | omega | (constructor <;> omega) | (simp only [Int.toNat_natCast]; omega) | exact b2_in _) (fun c4 => ?_) (fun c4 => ?_)
    · omega
    · refine AW.aload_n (pc' := 8) dX12_binds_7 rfl ?_
      refine AW.getR (pc' := 11) dX12_binds_8 ly_57 fX12_74 rfl ?_
      refine AW.aload_n (pc' := 12) dX12_binds_11 rfl ?_
      refine AW.getI (pc' := 15) dX12_binds_12 ly_57 fX12_187 rfl (fun r12 => ?_)
      try simp only [ek, tp] at r12 ⊢
      refine AW.iconst (pc' := 16) dX12_binds_15 ?_
      refine AW.isub (pc' := 17) dX12_binds_16 ?_
      first | refine AW.ialdN (pc' := 18) dX12_binds_17 ly_78 (by first | assumption | omega | (constructor <;> omega) | (simp only [Int.toNat_natCast]; omega) | exact b2_in _) (by decide) (fun r17 => ?_) | refine AW.iald (pc' := 18) dX12_binds_17 ly_78 (by first | assumption | omega | (constructor <;> omega) | (simp only [Int.toNat_natCast]; omega) | exact b2_in _) (by first | assumption | omega | (constructor <;> omega) | (simp only [Int.toNat_natCast]; omega) | exact b2_in _) (by decide) (fun r17 => ?_)
      try simp only [ek, tp] at r17 ⊢
      refine AW.bipush (pc' := 20) dX12_binds_18 (by decide) ?_
      refine AW.icmp_eq (tgt := 39) (pc' := 23) dX12_binds_20 (by first | assumption | omega | (constructor <;> omega) | (simp only [Int.toNat_natCast]; omega) | exact b2_in _) (by first | assumption | omega | (constructor <;> omega) | (simp only [Int.toNat_natCast]; omega) | exact b2_in _) (fun c20 => ?_) (fun c20 => ?_)
      · have pp : p = 33 ∨ p = 95 := by omega
        have cu1 : cU (p :: P) = 1 + cU P := by rw [cu, if_pos (by omega)]
        refine AW.aload_n (pc' := 40) dX12_binds_39 rfl ?_
        refine AW.dup (pc' := 41) dX12_binds_40 rfl ?_
        refine AW.getI (pc' := 44) dX12_binds_41 ly_57 fX12_187 rfl (fun r41 => ?_)
        try simp only [ek, tp] at r41 ⊢
        refine AW.iconst (pc' := 45) dX12_binds_44 ?_
        refine AW.isub (pc' := 46) dX12_binds_45 ?_
        refine AW.putI (pc' := 49) dX12_binds_46 ly_57 pX12_187 rfl (by first | assumption | omega | (constructor <;> omega) | (simp only [Int.toNat_natCast]; omega) | exact b2_in _) ?_
        refine AW.aload_n (pc' := 50) dX12_binds_49 rfl ?_
        refine AW.dup (pc' := 51) dX12_binds_50 rfl ?_
        refine AW.getI (pc' := 54) dX12_binds_51 ly_57 fX12_197 rfl (fun r51 => ?_)
        try simp only [ek, tp] at r51 ⊢
        try simp only [hset_app, Nat.reduceEqDiff, false_and, and_false, true_and, and_true, reduceIte] at r51 ⊢
        refine AW.iconst (pc' := 55) dX12_binds_54 ?_
        refine AW.isub (pc' := 56) dX12_binds_55 ?_
        refine AW.putI (pc' := 59) dX12_binds_56 ly_57 pX12_197 rfl (by first | assumption | omega | (constructor <;> omega) | (simp only [Int.toNat_natCast]; omega) | exact b2_in _) ?_
        have m4 := m3.opn (O - 1)
        obtain ⟨h3, gh3⟩ : ∃ z, z = hset (hset h1 57 33 (h1 57 33 - 1)) 57 34 (h1 57 34 - 1) := ⟨_, rfl⟩
        rw [← a6] at m4
        rw [← gh3] at m4 ⊢
        have i33 : h3 57 33 = h1 57 33 - 1 := by rw [gh3, hset_slot (show (33 : Nat) ≠ 34 by decide), hset_same]
        have t3 : h3 78 (h3 57 33).toNat = p := by rw [i33, ek, gh3, hset_other 78 (by decide), hset_other 78 (by decide), tp]
        have b3 := m4.2.2.2.1
        have b4 := m4.2.2.2.2.1
        refine AW.aload_n (pc' := 60) dX12_binds_59 rfl ?_
        refine AW.aload_n (pc' := 61) dX12_binds_60 rfl ?_
        refine AW.getR (pc' := 64) dX12_binds_61 ly_57 fX12_74 rfl ?_
        refine AW.aload_n (pc' := 65) dX12_binds_64 rfl ?_
        refine AW.getI (pc' := 68) dX12_binds_65 ly_57 fX12_187 rfl (fun r65 => ?_)
        try simp only [ek, tp] at r65 ⊢
        try simp only [hset_app, Nat.reduceEqDiff, false_and, and_false, true_and, and_true, reduceIte] at r65 ⊢
        first | refine AW.ialdN (pc' := 69) dX12_binds_68 ly_78 (by first | assumption | omega | (constructor <;> omega) | (simp only [Int.toNat_natCast]; omega) | exact b2_in _) (by decide) (fun r68 => ?_) | refine AW.iald (pc' := 69) dX12_binds_68 ly_78 (by first | assumption | omega | (constructor <;> omega) | (simp only [Int.toNat_natCast]; omega) | exact b2_in _) (by first | assumption | omega | (constructor <;> omega) | (simp only [Int.toNat_natCast]; omega) | exact b2_in _) (by decide) (fun r68 => ?_)
        try simp only [ek, tp] at r68 ⊢
        try simp only [hset_app, Nat.reduceEqDiff, false_and, and_false, true_and, and_true, reduceIte] at r68 ⊢
        refine AW.invV1v (pc' := 72) dX12_binds_69 mlX12_193 mX12_emits ly_57 rfl (c_X12_emits (dep := dep - 1) (by omega) (by omega)) ?_
        try simp only [Int.toNat_natCast, ek, tp]
        refine AW.goto (tgt := 0) dX12_binds_72 ?_
        rw [t3]
        have z : bnd (p :: P) T O = bnd P (p :: T) (O - 1) := by
          conv => lhs; unfold bnd
          rw [if_pos pp]
        rw [z, ← a6]
        exact AW.weak (ih (p :: T) _ _ (m4.emit p) (by simp only [List.length_cons]; omega) (by omega)) (by (repeat' first | exact LSub.e | refine LSub.n ?_ | refine LSub.c ?_ ?_) <;> first | rfl | exact congrArg Sum.inl (by first | rfl | omega | omega) | exact congrArg (fun z : Int => (vL z : AV)) (by first | rfl | omega | omega))
      · refine AW.aload_n (pc' := 24) dX12_binds_23 rfl ?_
        refine AW.getR (pc' := 27) dX12_binds_24 ly_57 fX12_74 rfl ?_
        refine AW.aload_n (pc' := 28) dX12_binds_27 rfl ?_
        refine AW.getI (pc' := 31) dX12_binds_28 ly_57 fX12_187 rfl (fun r28 => ?_)
        try simp only [ek, tp] at r28 ⊢
        refine AW.iconst (pc' := 32) dX12_binds_31 ?_
        refine AW.isub (pc' := 33) dX12_binds_32 ?_
        first | refine AW.ialdN (pc' := 34) dX12_binds_33 ly_78 (by first | assumption | omega | (constructor <;> omega) | (simp only [Int.toNat_natCast]; omega) | exact b2_in _) (by decide) (fun r33 => ?_) | refine AW.iald (pc' := 34) dX12_binds_33 ly_78 (by first | assumption | omega | (constructor <;> omega) | (simp only [Int.toNat_natCast]; omega) | exact b2_in _) (by first | assumption | omega | (constructor <;> omega) | (simp only [Int.toNat_natCast]; omega) | exact b2_in _) (by decide) (fun r33 => ?_)
        try simp only [ek, tp] at r33 ⊢
        refine AW.bipush (pc' := 36) dX12_binds_34 (by decide) ?_
        refine AW.icmp_ne (tgt := 75) (pc' := 39) dX12_binds_36 (by first | assumption | omega | (constructor <;> omega) | (simp only [Int.toNat_natCast]; omega) | exact b2_in _) (by first | assumption | omega | (constructor <;> omega) | (simp only [Int.toNat_natCast]; omega) | exact b2_in _) (fun c36 => ?_) (fun c36 => ?_)
        · refine AW.vret dX12_binds_75 ?_ ?_
          · rfl
          · unfold bnd
            rw [if_neg (by omega)]
            exact ms
        · have pp : p = 33 ∨ p = 95 := by omega
          have cu1 : cU (p :: P) = 1 + cU P := by rw [cu, if_pos (by omega)]
          refine AW.aload_n (pc' := 40) dX12_binds_39 rfl ?_
          refine AW.dup (pc' := 41) dX12_binds_40 rfl ?_
          refine AW.getI (pc' := 44) dX12_binds_41 ly_57 fX12_187 rfl (fun r41 => ?_)
          try simp only [ek, tp] at r41 ⊢
          refine AW.iconst (pc' := 45) dX12_binds_44 ?_
          refine AW.isub (pc' := 46) dX12_binds_45 ?_
          refine AW.putI (pc' := 49) dX12_binds_46 ly_57 pX12_187 rfl (by first | assumption | omega | (constructor <;> omega) | (simp only [Int.toNat_natCast]; omega) | exact b2_in _) ?_
          refine AW.aload_n (pc' := 50) dX12_binds_49 rfl ?_
          refine AW.dup (pc' := 51) dX12_binds_50 rfl ?_
          refine AW.getI (pc' := 54) dX12_binds_51 ly_57 fX12_197 rfl (fun r51 => ?_)
          try simp only [ek, tp] at r51 ⊢
          try simp only [hset_app, Nat.reduceEqDiff, false_and, and_false, true_and, and_true, reduceIte] at r51 ⊢
          refine AW.iconst (pc' := 55) dX12_binds_54 ?_
          refine AW.isub (pc' := 56) dX12_binds_55 ?_
          refine AW.putI (pc' := 59) dX12_binds_56 ly_57 pX12_197 rfl (by first | assumption | omega | (constructor <;> omega) | (simp only [Int.toNat_natCast]; omega) | exact b2_in _) ?_
          have m4 := m3.opn (O - 1)
          obtain ⟨h3, gh3⟩ : ∃ z, z = hset (hset h1 57 33 (h1 57 33 - 1)) 57 34 (h1 57 34 - 1) := ⟨_, rfl⟩
          rw [← a6] at m4
          rw [← gh3] at m4 ⊢
          have i33 : h3 57 33 = h1 57 33 - 1 := by rw [gh3, hset_slot (show (33 : Nat) ≠ 34 by decide), hset_same]
          have t3 : h3 78 (h3 57 33).toNat = p := by rw [i33, ek, gh3, hset_other 78 (by decide), hset_other 78 (by decide), tp]
          have b3 := m4.2.2.2.1
          have b4 := m4.2.2.2.2.1
          refine AW.aload_n (pc' := 60) dX12_binds_59 rfl ?_
          refine AW.aload_n (pc' := 61) dX12_binds_60 rfl ?_
          refine AW.getR (pc' := 64) dX12_binds_61 ly_57 fX12_74 rfl ?_
          refine AW.aload_n (pc' := 65) dX12_binds_64 rfl ?_
          refine AW.getI (pc' := 68) dX12_binds_65 ly_57 fX12_187 rfl (fun r65 => ?_)
          try simp only [ek, tp] at r65 ⊢
          try simp only [hset_app, Nat.reduceEqDiff, false_and, and_false, true_and, and_true, reduceIte] at r65 ⊢
          first | refine AW.ialdN (pc' := 69) dX12_binds_68 ly_78 (by first | assumption | omega | (constructor <;> omega) | (simp only [Int.toNat_natCast]; omega) | exact b2_in _) (by decide) (fun r68 => ?_) | refine AW.iald (pc' := 69) dX12_binds_68 ly_78 (by first | assumption | omega | (constructor <;> omega) | (simp only [Int.toNat_natCast]; omega) | exact b2_in _) (by first | assumption | omega | (constructor <;> omega) | (simp only [Int.toNat_natCast]; omega) | exact b2_in _) (by decide) (fun r68 => ?_)
          try simp only [ek, tp] at r68 ⊢
          try simp only [hset_app, Nat.reduceEqDiff, false_and, and_false, true_and, and_true, reduceIte] at r68 ⊢
          refine AW.invV1v (pc' := 72) dX12_binds_69 mlX12_193 mX12_emits ly_57 rfl (c_X12_emits (dep := dep - 1) (by omega) (by omega)) ?_
          try simp only [Int.toNat_natCast, ek, tp]
          refine AW.goto (tgt := 0) dX12_binds_72 ?_
          rw [t3]
          have z : bnd (p :: P) T O = bnd P (p :: T) (O - 1) := by
            conv => lhs; unfold bnd
            rw [if_pos pp]
          rw [z, ← a6]
          exact AW.weak (ih (p :: T) _ _ (m4.emit p) (by simp only [List.length_cons]; omega) (by omega)) (by (repeat' first | exact LSub.e | refine LSub.n ?_ | refine LSub.c ?_ ?_) <;> first | rfl | exact congrArg Sum.inl (by first | rfl | omega | omega) | exact congrArg (fun z : Int => (vL z : AV)) (by first | rfl | omega | omega))
set_option maxRecDepth 100000 in
set_option maxHeartbeats 4000000 in
theorem c_X12_binds {K : KT} {dep : Nat} {h : Hp} {g : Hp} {base : Nat} {A O C : Int} {S : List Int} {P T : List Int} (hd : 1 ≤ dep) (ms : MS g base A P T O S C h) (qb : base ≤ 600) (ql : P.length + T.length ≤ 130) (qo : (cU P : Int) ≤ O ∧ O ≤ 6) : AMp K yX12_binds cX12_binds 1 none dep [vR 57] h none (fun x => MS g base A (bnd P T O).1 (bnd P T O).2.1 (bnd P T O).2.2 S C x) := by
  refine AM.of (own := RX12) (ls := [some (vR 57)]) rfl (by decide +kernel) (by exact Nat.le_of_ble_eq_true rfl) rfl (fun hO => ?_)
  exact AW.weak (lp_X12_binds qb hd P T O h ms ql qo) (by (repeat' first | exact LSub.e | refine LSub.n ?_ | refine LSub.c ?_ ?_) <;> first | rfl | exact congrArg Sum.inl (by first | rfl | omega | omega) | exact congrArg (fun z : Int => (vL z : AV)) (by first | rfl | omega | omega))
