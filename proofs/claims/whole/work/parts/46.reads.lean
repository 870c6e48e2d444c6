/-! laws: the reference reads a law -/
theorem wantF_up {B : Nat → Int} {E A : Int} {P T : List Int} {O : Int} {S : List Int} {C b : Int} (h : 0 ≤ (wantF B E A P T O S C b).1) (hb : b = B A.toNat) (hE : A < E) : A < (wantF B E A P T O S C b).2.1 := by
  unfold wantF at h ⊢
  by_cases h1 : 48 ≤ b ∧ b ≤ 57
  · rw [if_pos h1]
    show A < (nuM B E 4 0 A).2
    have e : nuM B E 4 0 A = nuM B E 3 (10 * 0 + B A.toNat - 48) (A + 1) := if_pos (⟨hE, by omega, by omega⟩ : A < E ∧ 48 ≤ B A.toNat ∧ B A.toNat ≤ 57)
    rw [e]
    have := (nuM_in (B := B) (E := E) 3 (10 * 0 + B A.toNat - 48) (A + 1) (by omega)).1
    omega
  · rw [if_neg h1] at h ⊢
    by_cases h2 : nmP b
    · rw [if_pos h2]; show A < A + 1; omega
    · rw [if_neg h2] at h ⊢
      by_cases h3 : ¬ (b = 33 ∨ b = 45 ∨ b = 40) ∨ O = 6
      · rw [if_pos h3] at h
        exact absurd h (by show ¬ (0 : Int) ≤ -1; decide)
      · rw [if_neg h3]; show A < A + 1; omega
theorem wantF_wf {B : Nat → Int} {E A : Int} {P T : List Int} {O : Int} {S : List Int} {C b : Int} (W : WFr E (A, (P, (T, (O, (S, C)))))) (hb : b = B A.toNat) (hE : A < E) : WFr E (wantF B E A P T O S C b).2 := by
  obtain ⟨w1, w2, w3, w4, w5, w6, w7, w8, w9⟩ := W
  simp only at w1 w2 w4 w5 w6 w7 w8 w9
  unfold wantF
  by_cases h1 : 48 ≤ b ∧ b ≤ 57
  · rw [if_pos h1]
    have na : A + 1 ≤ (nuM B E 4 0 A).2 := by
      have e : nuM B E 4 0 A = nuM B E 3 (10 * 0 + B A.toNat - 48) (A + 1) := if_pos (⟨hE, by omega, by omega⟩ : A < E ∧ 48 ≤ B A.toNat ∧ B A.toNat ≤ 57)
      rw [e]
      exact (nuM_in (B := B) (E := E) 3 (10 * 0 + B A.toNat - 48) (A + 1) (by omega)).1
    have nb := (nuM_in (B := B) (E := E) 4 0 A w2).2
    have bi := bnd_in P ((1000 + (nuM B E 4 0 A).1) :: T) O
    simp only [List.length_cons] at bi
    refine ⟨?_, ?_, w3, ?_, ?_, ?_, ?_, w8, w9⟩ <;> simp only <;> omega
  · rw [if_neg h1]
    by_cases h2 : nmP b
    · rw [if_pos h2]
      have bi := bnd_in P (b :: T) O
      simp only [List.length_cons] at bi
      refine ⟨?_, ?_, w3, ?_, ?_, ?_, ?_, w8, w9⟩ <;> simp only <;> omega
    · rw [if_neg h2]
      by_cases h3 : ¬ (b = 33 ∨ b = 45 ∨ b = 40) ∨ O = 6
      · rw [if_pos h3]; exact ⟨w1, w2, w3, w4, w5, w6, w7, w8, w9⟩
      · rw [if_neg h3]
        have c1 : cU ((if b = 45 then 95 else b) :: P) = 1 + cU P := by
          show (if _ then 1 else 0) + cU P = _
          rw [if_pos (by split <;> omega)]
        have c2 : cP ((if b = 45 then 95 else b) :: P) = (if b = 40 then 1 else 0) + cP P := by
          show (if _ then 1 else 0) + cP P = _
          by_cases z : b = 40
          · rw [if_pos z, if_pos (by rw [if_neg (by omega)]; exact z)]
          · rw [if_neg z, if_neg (by split <;> omega)]
        refine ⟨?_, ?_, w3, ?_, ?_, ?_, ?_, w8, w9⟩
        · show 0 ≤ A + 1; omega
        · show A + 1 ≤ E; omega
        · show ((((if b = 45 then 95 else b) :: P).length + T.length : Nat) : Int) ≤ A + 1
          simp only [List.length_cons]; omega
        · show (cU ((if b = 45 then 95 else b) :: P) : Int) ≤ O + 1
          rw [c1]; omega
        · show O + 1 ≤ 6; omega
        · show cP ((if b = 45 then 95 else b) :: P) + 1 = (if b = 40 then 0 :: S else S).length
          rw [c2]
          by_cases z : b = 40
          · rw [if_pos z, if_pos z]; simp only [List.length_cons]; omega
          · rw [if_neg z, if_neg z]; omega
theorem behF_up {A : Int} {P T : List Int} {O s : Int} {S : List Int} {C b : Int} (h : 0 ≤ (behF A P T O s S C b).1) : A < (behF A P T O s S C b).2.1 := by
  unfold behF at h ⊢
  have n : ¬ (0 : Int) ≤ -1 := by decide
  have q : A < A + 1 := by omega
  split
  · rename_i c1
    rw [if_pos c1] at h
    split
    · rename_i c2
      rw [if_pos c2] at h
      exact absurd h n
    · exact q
  · rename_i c1
    rw [if_neg c1] at h
    split
    · rename_i c2
      rw [if_pos c2] at h
      split
      · rename_i c3
        rw [if_pos c3] at h
        exact absurd h n
      · exact q
    · rename_i c2
      rw [if_neg c2] at h
      split
      · rename_i c3
        rw [if_pos c3] at h
        exact absurd h n
      · exact q
theorem behF_wf {E A : Int} {P T : List Int} {O s : Int} {S : List Int} {C b : Int} (W : WFr E (A, (P, (T, (O, (s :: S, C)))))) (hE : A < E) : WFr E (behF A P T O s S C b).2 := by
  have W2 := W
  obtain ⟨w1, w2, w3, w4, w5, w6, w7, w8, w9⟩ := W
  simp only [List.length_cons] at w1 w2 w4 w5 w6 w7 w8 w9
  have s0 := stl_in 0 P T
  have sb := stl_in (strF b) P T
  unfold behF
  split
  · split
    · exact W2
    · rename_i c1 c2
      have z0 := stl_0 P T
      obtain ⟨Q, hQ⟩ : ∃ Q, (stl 0 P T).1 = 40 :: Q := by
        rcases z0 with z | z
        · exfalso
          rw [z] at s0
          have y : cP ([] : List Int) = 0 := rfl
          have := s0.2.1
          have l : 0 < S.length := List.length_pos_iff.mpr c2
          omega
        · exact z
      have bi := bnd_in Q (stl 0 P T).2 (O - 1)
      have cu : cU (40 :: Q) = 1 + cU Q := by show (if _ then 1 else 0) + cU Q = _; rw [if_pos (by omega)]
      have cp : cP (40 :: Q) = 1 + cP Q := by show (if _ then 1 else 0) + cP Q = _; rw [if_pos rfl]
      rw [hQ] at s0
      simp only [List.length_cons] at s0
      unfold clF
      rw [hQ]
      simp only [List.tail_cons]
      refine ⟨?_, ?_, w3, ?_, ?_, ?_, ?_, w8, w9⟩ <;> simp only <;> omega
  · split
    · split
      · exact W2
      · refine ⟨?_, ?_, w3, ?_, ?_, w6, ?_, ?_, ?_⟩
        · show 0 ≤ A + 1; omega
        · show A + 1 ≤ E; omega
        · simp only [List.length_cons]; omega
        · simp only; omega
        · simp only [List.length_cons]; omega
        · simp only; split <;> decide
        · simp only; split <;> decide
    · split
      · exact W2
      · rename_i c1 c2 c3
        have c9 : strF b ≠ 0 := fun y => c3 (Or.inl y)
        have nb : ¬ (b = 33 ∨ b = 95 ∨ b = 40) := fun y => c9 (by rcases y with rfl | rfl | rfl <;> rfl)
        have cu : cU (b :: (stl (strF b) P T).1) = cU (stl (strF b) P T).1 := by show (if _ then 1 else 0) + cU _ = _; rw [if_neg nb]; omega
        have cp : cP (b :: (stl (strF b) P T).1) = cP (stl (strF b) P T).1 := by show (if _ then 1 else 0) + cP _ = _; rw [if_neg (by omega)]; omega
        refine ⟨?_, ?_, w3, ?_, ?_, w6, ?_, w8, w9⟩
        · show 0 ≤ A + 1; omega
        · show A + 1 ≤ E; omega
        · simp only [List.length_cons]; omega
        · simp only; rw [cu]; omega
        · simp only [List.length_cons]; rw [cp]; omega
def rdM (B : Nat → Int) (E : Int) : Nat → Bool → Int → List Int → List Int → Int → Int → List Int → Int → Int × RS
  | 0, _, A, P, T, O, s, S, C => (0, (A, (P, (T, (O, (s :: S, C))))))
  | n + 1, w, A, P, T, O, s, S, C =>
    if A < E then
      if (if w then wantF B E A P T O (s :: S) C (B A.toNat) else behF A P T O s S C (B A.toNat)).1 < 0 then (0, (if w then wantF B E A P T O (s :: S) C (B A.toNat) else behF A P T O s S C (B A.toNat)).2)
      else rdM B E n (if w then decide ((if w then wantF B E A P T O (s :: S) C (B A.toNat) else behF A P T O s S C (B A.toNat)).1 = 0) else decide ((if w then wantF B E A P T O (s :: S) C (B A.toNat) else behF A P T O s S C (B A.toNat)).1 = 1))
        (if w then wantF B E A P T O (s :: S) C (B A.toNat) else behF A P T O s S C (B A.toNat)).2.1 (if w then wantF B E A P T O (s :: S) C (B A.toNat) else behF A P T O s S C (B A.toNat)).2.2.1 (if w then wantF B E A P T O (s :: S) C (B A.toNat) else behF A P T O s S C (B A.toNat)).2.2.2.1 (if w then wantF B E A P T O (s :: S) C (B A.toNat) else behF A P T O s S C (B A.toNat)).2.2.2.2.1 ((if w then wantF B E A P T O (s :: S) C (B A.toNat) else behF A P T O s S C (B A.toNat)).2.2.2.2.2.1.headD 0) (if w then wantF B E A P T O (s :: S) C (B A.toNat) else behF A P T O s S C (B A.toNat)).2.2.2.2.2.1.tail (if w then wantF B E A P T O (s :: S) C (B A.toNat) else behF A P T O s S C (B A.toNat)).2.2.2.2.2.2
    else if w = true ∨ S ≠ [] then (0, (A, (P, (T, (O, (s :: S, C)))))) else (1, (A, ((stl 0 P T).1, (901 :: (stl 0 P T).2, (O, (s :: S, C))))))
/-- one step more: r what the sign gives -/
theorem rdM_step {B : Nat → Int} {E : Int} {n : Nat} {w : Bool} {A : Int} {P T : List Int} {O s : Int} {S : List Int} {C : Int} (r : Int × RS) (hr : r = if w then wantF B E A P T O (s :: S) C (B A.toNat) else behF A P T O s S C (B A.toNat)) (hE : A < E) : rdM B E (n + 1) w A P T O s S C = if r.1 < 0 then (0, r.2) else rdM B E n (if w then decide (r.1 = 0) else decide (r.1 = 1)) r.2.1 r.2.2.1 r.2.2.2.1 r.2.2.2.2.1 (r.2.2.2.2.2.1.headD 0) r.2.2.2.2.2.1.tail r.2.2.2.2.2.2 := by
  subst hr
  conv => lhs; unfold rdM
  rw [if_pos hE]
