/-! laws: one text, read by the class and by the reference -/
abbrev BQ (T : Nat → Int) : Nat → Int := fun j => b255 (T j)
theorem wantF_A {B : Nat → Int} {E A : Int} {P K : List Int} {O : Int} {S : List Int} {C : Int} (hA : A < E) (h : ¬ (wantF B E A P K O S C (B A.toNat)).1 < 0) : A < (wantF B E A P K O S C (B A.toNat)).2.1 ∧ (wantF B E A P K O S C (B A.toNat)).2.1 ≤ E := by
  unfold wantF at h ⊢
  by_cases z : 48 ≤ B A.toNat ∧ B A.toNat ≤ 57
  · rw [if_pos z]
    have e : nuM B E 4 0 A = nuM B E 3 (10 * 0 + B A.toNat - 48) (A + 1) := by
      conv => lhs; unfold nuM
      rw [if_pos ⟨hA, z⟩]
    have q := nuM_in (B := B) (E := E) 3 (10 * 0 + B A.toNat - 48) (A + 1) (by omega)
    rw [← e] at q
    show A < (nuM B E 4 0 A).2 ∧ (nuM B E 4 0 A).2 ≤ E
    omega
  · rw [if_neg z] at h ⊢
    by_cases y : nmP (B A.toNat)
    · rw [if_pos y]
      show A < A + 1 ∧ A + 1 ≤ E
      omega
    · rw [if_neg y] at h ⊢
      by_cases x : ¬ (B A.toNat = 33 ∨ B A.toNat = 45 ∨ B A.toNat = 40) ∨ O = 6
      · rw [if_pos x] at h
        exact absurd (show (-1 : Int) < 0 by decide) h
      · rw [if_neg x]
        show A < A + 1 ∧ A + 1 ≤ E
        omega
theorem behF_A {A : Int} {P K : List Int} {O s : Int} {S : List Int} {C b : Int} (h : ¬ (behF A P K O s S C b).1 < 0) : (behF A P K O s S C b).2.1 = A + 1 := by
  unfold behF at h ⊢
  by_cases z : b = 41
  · rw [if_pos z] at h ⊢
    by_cases y : S = []
    · rw [if_pos y] at h
      exact absurd (show (-1 : Int) < 0 by decide) h
    · rw [if_neg y]
      rfl
  · rw [if_neg z] at h ⊢
    by_cases y : b = 63 ∨ b = 59
    · rw [if_pos y] at h ⊢
      by_cases x : S ≠ [] ∨ b = 63 ∧ C = 1
      · rw [if_pos x] at h
        exact absurd (show (-1 : Int) < 0 by decide) h
      · rw [if_neg x]
    · rw [if_neg y] at h ⊢
      by_cases x : strF b = 0 ∨ strF b = 3 ∧ s = 1
      · rw [if_pos x] at h
        exact absurd (show (-1 : Int) < 0 by decide) h
      · rw [if_neg x]
theorem stepA {B : Nat → Int} {E : Int} {w : Bool} {A : Int} {P K : List Int} {O s : Int} {S : List Int} {C : Int} {r : Int × RS} (hr : r = if w then wantF B E A P K O (s :: S) C (B A.toNat) else behF A P K O s S C (B A.toNat)) (hE : A < E) (z : ¬ r.1 < 0) : A < r.2.1 ∧ r.2.1 ≤ E := by
  cases w with
  | true =>
    have e : r = wantF B E A P K O (s :: S) C (B A.toNat) := by rw [hr]; rfl
    rw [e] at z ⊢
    exact wantF_A hE z
  | false =>
    have e : r = behF A P K O s S C (B A.toNat) := by rw [hr]; rfl
    rw [e] at z ⊢
    have := behF_A z
    omega
theorem rdM_fuel {B : Nat → Int} {E : Int} : ∀ (n m : Nat) (w : Bool) (A : Int) (P K : List Int) (O s : Int) (S : List Int) (C : Int), A ≤ E → E - A < n → E - A < m → rdM B E n w A P K O s S C = rdM B E m w A P K O s S C
  | 0, m, w, A, P, K, O, s, S, C, h1, h2, h3 => by omega
  | n + 1, 0, w, A, P, K, O, s, S, C, h1, h2, h3 => by omega
  | n + 1, m + 1, w, A, P, K, O, s, S, C, h1, h2, h3 => by
    by_cases hE : A < E
    · obtain ⟨r, hr⟩ : ∃ r, r = if w then wantF B E A P K O (s :: S) C (B A.toNat) else behF A P K O s S C (B A.toNat) := ⟨_, rfl⟩
      rw [rdM_step (n := n) r hr hE, rdM_step (n := m) r hr hE]
      by_cases z : r.1 < 0
      · rw [if_pos z, if_pos z]
      · rw [if_neg z, if_neg z]
        have q := stepA hr hE z
        exact rdM_fuel n m _ _ _ _ _ _ _ _ q.2 (by omega) (by omega)
    · unfold rdM
      rw [if_neg hE, if_neg hE]
def RQ (T : Nat → Int) (E : Int) (w : Bool) (A : Int) (P K : List Int) (O s : Int) (S : List Int) (C : Int) : Int × RS := rdM (BQ T) E (E - A + 1).toNat w A P K O s S C
section LQ
variable {T : Nat → Int} {E : Int} {A : Int} {P K : List Int} {O s : Int} {S : List Int} {C : Int}
theorem RQ_want {r : Int × RS} (hA : A < E) (hr : wantF (BQ T) E A P K O (s :: S) C (BQ T A.toNat) = r) : RQ T E true A P K O s S C = if r.1 < 0 then (0, r.2) else RQ T E (decide (r.1 = 0)) r.2.1 r.2.2.1 r.2.2.2.1 r.2.2.2.2.1 (r.2.2.2.2.2.1.headD 0) r.2.2.2.2.2.1.tail r.2.2.2.2.2.2 := by
  have hr2 : r = if (true : Bool) then wantF (BQ T) E A P K O (s :: S) C (BQ T A.toNat) else behF A P K O s S C (BQ T A.toNat) := by rw [← hr]; rfl
  unfold RQ
  obtain ⟨n, hn⟩ : ∃ n : Nat, (E - A + 1).toNat = n + 1 := ⟨(E - A).toNat, by omega⟩
  rw [hn, rdM_step (n := n) r hr2 hA]
  by_cases z : r.1 < 0
  · rw [if_pos z, if_pos z]
  · rw [if_neg z, if_neg z]
    have q := stepA hr2 hA z
    exact rdM_fuel n _ _ _ _ _ _ _ _ _ q.2 (by omega) (by omega)
theorem RQ_beh {r : Int × RS} (hA : A < E) (hr : behF A P K O s S C (BQ T A.toNat) = r) : RQ T E false A P K O s S C = if r.1 < 0 then (0, r.2) else RQ T E (decide (r.1 = 1)) r.2.1 r.2.2.1 r.2.2.2.1 r.2.2.2.2.1 (r.2.2.2.2.2.1.headD 0) r.2.2.2.2.2.1.tail r.2.2.2.2.2.2 := by
  have hr2 : r = if (false : Bool) then wantF (BQ T) E A P K O (s :: S) C (BQ T A.toNat) else behF A P K O s S C (BQ T A.toNat) := by rw [← hr]; rfl
  unfold RQ
  obtain ⟨n, hn⟩ : ∃ n : Nat, (E - A + 1).toNat = n + 1 := ⟨(E - A).toNat, by omega⟩
  rw [hn, rdM_step (n := n) r hr2 hA]
  by_cases z : r.1 < 0
  · rw [if_pos z, if_pos z]
  · rw [if_neg z, if_neg z]
    have q := stepA hr2 hA z
    exact rdM_fuel n _ _ _ _ _ _ _ _ _ q.2 (by omega) (by omega)
theorem RQ_end {w : Bool} (hA : A = E) : RQ T E w A P K O s S C = if w = true ∨ S ≠ [] then (0, (A, (P, (K, (O, (s :: S, C)))))) else (1, (A, ((stl 0 P K).1, (901 :: (stl 0 P K).2, (O, (s :: S, C)))))) := by
  unfold RQ
  obtain ⟨n, hn⟩ : ∃ n : Nat, (E - A + 1).toNat = n + 1 := ⟨(E - A).toNat, by omega⟩
  rw [hn]
  conv => lhs; unfold rdM
  rw [if_neg (by omega)]
theorem RQ_num (hA : A < E) (h : 48 ≤ BQ T A.toNat ∧ BQ T A.toNat ≤ 57) : RQ T E true A P K O s S C = RQ T E false (nuM (BQ T) E 4 0 A).2 (bnd P ((1000 + (nuM (BQ T) E 4 0 A).1) :: K) O).1 (bnd P ((1000 + (nuM (BQ T) E 4 0 A).1) :: K) O).2.1 (bnd P ((1000 + (nuM (BQ T) E 4 0 A).1) :: K) O).2.2 s S C := by
  have e : wantF (BQ T) E A P K O (s :: S) C (BQ T A.toNat) = (1, ((nuM (BQ T) E 4 0 A).2, ((bnd P ((1000 + (nuM (BQ T) E 4 0 A).1) :: K) O).1, ((bnd P ((1000 + (nuM (BQ T) E 4 0 A).1) :: K) O).2.1, ((bnd P ((1000 + (nuM (BQ T) E 4 0 A).1) :: K) O).2.2, (s :: S, C)))))) := by
    unfold wantF
    rw [if_pos h]
  rw [RQ_want hA e, if_neg (show ¬ ((1 : Int) < 0) by decide)]
  rfl
theorem RQ_name (hA : A < E) (h1 : ¬ (48 ≤ BQ T A.toNat ∧ BQ T A.toNat ≤ 57)) (h : nmP (BQ T A.toNat)) : RQ T E true A P K O s S C = RQ T E false (A + 1) (bnd P (BQ T A.toNat :: K) O).1 (bnd P (BQ T A.toNat :: K) O).2.1 (bnd P (BQ T A.toNat :: K) O).2.2 s S C := by
  have e : wantF (BQ T) E A P K O (s :: S) C (BQ T A.toNat) = (1, (A + 1, ((bnd P (BQ T A.toNat :: K) O).1, ((bnd P (BQ T A.toNat :: K) O).2.1, ((bnd P (BQ T A.toNat :: K) O).2.2, (s :: S, C)))))) := by
    unfold wantF
    rw [if_neg h1, if_pos h]
  rw [RQ_want hA e, if_neg (show ¬ ((1 : Int) < 0) by decide)]
  rfl
theorem RQ_no (hA : A < E) (h1 : ¬ (48 ≤ BQ T A.toNat ∧ BQ T A.toNat ≤ 57)) (h2 : ¬ nmP (BQ T A.toNat)) (h : ¬ (BQ T A.toNat = 33 ∨ BQ T A.toNat = 45 ∨ BQ T A.toNat = 40) ∨ O = 6) : RQ T E true A P K O s S C = (0, (A, (P, (K, (O, (s :: S, C)))))) := by
  have e : wantF (BQ T) E A P K O (s :: S) C (BQ T A.toNat) = (-1, (A, (P, (K, (O, (s :: S, C)))))) := by
    unfold wantF
    rw [if_neg h1, if_neg h2, if_pos h]
  rw [RQ_want hA e, if_pos (show (-1 : Int) < 0 by decide)]
theorem RQ_pre (hA : A < E) (h1 : ¬ (48 ≤ BQ T A.toNat ∧ BQ T A.toNat ≤ 57)) (h2 : ¬ nmP (BQ T A.toNat)) (h : BQ T A.toNat = 33 ∨ BQ T A.toNat = 45 ∨ BQ T A.toNat = 40) (hO : O ≠ 6) : RQ T E true A P K O s S C = RQ T E true (A + 1) ((if BQ T A.toNat = 45 then 95 else BQ T A.toNat) :: P) K (O + 1) ((if BQ T A.toNat = 40 then 0 :: s :: S else s :: S).headD 0) (if BQ T A.toNat = 40 then 0 :: s :: S else s :: S).tail C := by
  have e : wantF (BQ T) E A P K O (s :: S) C (BQ T A.toNat) = (0, (A + 1, ((if BQ T A.toNat = 45 then 95 else BQ T A.toNat) :: P, (K, (O + 1, (if BQ T A.toNat = 40 then 0 :: s :: S else s :: S, C)))))) := by
    unfold wantF
    rw [if_neg h1, if_neg h2, if_neg (fun z => z.elim (fun y => y h) hO)]
  rw [RQ_want hA e, if_neg (show ¬ ((0 : Int) < 0) by decide)]
  rfl
theorem RQ_close {r : Int} (hA : A < E) (h : BQ T A.toNat = 41) : RQ T E false A P K O s (r :: S) C = RQ T E false (A + 1) (bnd (stl 0 P K).1.tail (stl 0 P K).2 (O - 1)).1 (bnd (stl 0 P K).1.tail (stl 0 P K).2 (O - 1)).2.1 (bnd (stl 0 P K).1.tail (stl 0 P K).2 (O - 1)).2.2 r S C := by
  have e : behF A P K O s (r :: S) C (BQ T A.toNat) = (0, clF A P K O (r :: S) C) := by
    unfold behF
    rw [if_pos h, if_neg (List.cons_ne_nil _ _)]
  rw [RQ_beh hA e, if_neg (show ¬ ((0 : Int) < 0) by decide)]
  rfl
theorem RQ_mark (hA : A < E) (h : BQ T A.toNat = 63 ∧ C ≠ 1 ∨ BQ T A.toNat = 59) : RQ T E false A P K O s [] C = RQ T E true (A + 1) (stl 0 P K).1 ((if BQ T A.toNat = 63 then 900 else 901) :: (stl 0 P K).2) O 0 [] (if BQ T A.toNat = 63 then 1 else 0) := by
  have e : behF A P K O s [] C (BQ T A.toNat) = (1, (A + 1, ((stl 0 P K).1, ((if BQ T A.toNat = 63 then 900 else 901) :: (stl 0 P K).2, (O, ([0], if BQ T A.toNat = 63 then 1 else 0)))))) := by
    unfold behF
    rw [if_neg (by omega), if_pos (by omega), if_neg (fun z => z.elim (fun y => y rfl) (fun y => by omega))]
  rw [RQ_beh hA e, if_neg (show ¬ ((1 : Int) < 0) by decide)]
  rfl
theorem RQ_op (hA : A < E) (h1 : strF (BQ T A.toNat) ≠ 0) (h2 : strF (BQ T A.toNat) = 3 → s ≠ 1) : RQ T E false A P K O s S C = RQ T E true (A + 1) (BQ T A.toNat :: (stl (strF (BQ T A.toNat)) P K).1) (stl (strF (BQ T A.toNat)) P K).2 O (if strF (BQ T A.toNat) < 3 then 0 else if strF (BQ T A.toNat) = 3 then 1 else s) S C := by
  have n1 : BQ T A.toNat ≠ 41 := fun z => h1 (by rw [z]; rfl)
  have n2 : ¬ (BQ T A.toNat = 63 ∨ BQ T A.toNat = 59) := fun z => h1 (by rcases z with z | z <;> rw [z] <;> rfl)
  have e : behF A P K O s S C (BQ T A.toNat) = (1, (A + 1, (BQ T A.toNat :: (stl (strF (BQ T A.toNat)) P K).1, ((stl (strF (BQ T A.toNat)) P K).2, (O, ((if strF (BQ T A.toNat) < 3 then 0 else if strF (BQ T A.toNat) = 3 then 1 else s) :: S, C)))))) := by
    unfold behF
    rw [if_neg n1, if_neg n2, if_neg (fun z => z.elim h1 (fun y => h2 y.1 y.2))]
  rw [RQ_beh hA e, if_neg (show ¬ ((1 : Int) < 0) by decide)]
  rfl
/-- nothing that may stand there -/
theorem RQ_bad (hA : A < E) (h1 : BQ T A.toNat = 41 → S = []) (h2 : BQ T A.toNat = 63 ∨ BQ T A.toNat = 59 → S ≠ [] ∨ BQ T A.toNat = 63 ∧ C = 1) (h3 : strF (BQ T A.toNat) = 0 ∨ strF (BQ T A.toNat) = 3 ∧ s = 1) : RQ T E false A P K O s S C = (0, (A, (P, (K, (O, (s :: S, C)))))) := by
  have e : behF A P K O s S C (BQ T A.toNat) = (-1, (A, (P, (K, (O, (s :: S, C)))))) := by
    unfold behF
    by_cases z : BQ T A.toNat = 41
    · rw [if_pos z, if_pos (h1 z)]
    · rw [if_neg z]
      by_cases y : BQ T A.toNat = 63 ∨ BQ T A.toNat = 59
      · rw [if_pos y, if_pos (h2 y)]
      · rw [if_neg y, if_pos h3]
  rw [RQ_beh hA e, if_pos (show (-1 : Int) < 0 by decide)]
end LQ
/-- tokens (the last one first) that work out to v -/
def LqC (nm : Int → Int) (code : List Int) (v : Int) : Prop := (∀ (R D : List Int) (c : Bool), evF nm (code.reverse ++ R) D c = evF nm R (v :: D) c) ∧ ∀ (R : List Int) (d : Nat), okT R (d + 1) → okT (code.reverse ++ R) d
theorem LqC.num {nm : Int → Int} {v : Int} (h : 0 ≤ v) : LqC nm [1000 + v] v := by
  refine ⟨fun R D c => ?_, fun R d o => ?_⟩
  · show evF nm ((1000 + v) :: R) D c = _
    rw [evF, if_pos (by omega), show 1000 + v - 1000 = v by omega]
  · show okT ((1000 + v) :: R) d
    rw [okT, if_pos (by omega)]
    exact o
theorem LqC.name {nm : Int → Int} {b : Int} (h : nmP b) : LqC nm [b] (nm b) := by
  refine ⟨fun R D c => ?_, fun R d o => ?_⟩
  · show evF nm (b :: R) D c = _
    rw [evF, if_neg (by omega), if_neg (by omega), if_neg (by omega), if_neg (by omega), if_neg (by omega), if_pos h]
  · show okT (b :: R) d
    rw [okT, if_neg (by omega), if_neg (by omega), if_neg (by omega), if_pos h]
    exact o
theorem LqC.not {nm : Int → Int} {code : List Int} {v : Int} (h : LqC nm code v) : LqC nm (33 :: code) (b2 (v = 0)) := by
  refine ⟨fun R D c => ?_, fun R d o => ?_⟩
  · rw [List.reverse_cons, List.append_assoc, h.1]
    show evF nm (33 :: R) (v :: D) c = _
    rw [evF, if_neg (by decide), if_neg (by decide), if_neg (by decide), if_pos rfl]
    rfl
  · rw [List.reverse_cons, List.append_assoc]
    refine h.2 _ _ ?_
    show okT (33 :: R) (d + 1)
    rw [okT, if_neg (by decide), if_neg (by decide), if_pos (Or.inl rfl)]
    exact ⟨by omega, o⟩
theorem LqC.neg {nm : Int → Int} {code : List Int} {v : Int} (h : LqC nm code v) : LqC nm (95 :: code) (wr (-v)) := by
  refine ⟨fun R D c => ?_, fun R d o => ?_⟩
  · rw [List.reverse_cons, List.append_assoc, h.1]
    show evF nm (95 :: R) (v :: D) c = _
    rw [evF, if_neg (by decide), if_neg (by decide), if_neg (by decide), if_neg (by decide), if_pos rfl]
    rfl
  · rw [List.reverse_cons, List.append_assoc]
    refine h.2 _ _ ?_
    show okT (95 :: R) (d + 1)
    rw [okT, if_neg (by decide), if_neg (by decide), if_pos (Or.inr rfl)]
    exact ⟨by omega, o⟩
theorem opP_str {t : Int} (h : strF t ≠ 0) : opP t := by
  unfold strF at h
  (repeat' split at h) <;> omega
theorem LqC.two {nm : Int → Int} {c1 c2 : List Int} {v w t : Int} (h1 : LqC nm c1 v) (h2 : LqC nm c2 w) (ht : opP t) : LqC nm (t :: (c2 ++ c1)) (twF t v w) := by
  have n1 : ¬ 1000 ≤ t := by omega
  have n2 : t ≠ 900 := by omega
  have n3 : t ≠ 901 := by omega
  have n4 : t ≠ 33 := by omega
  have n5 : t ≠ 95 := by omega
  have n6 : ¬ nmP t := by omega
  refine ⟨fun R D c => ?_, fun R d o => ?_⟩
  · rw [List.reverse_cons, List.reverse_append, List.append_assoc, List.append_assoc, h1.1, h2.1]
    show evF nm (t :: R) (w :: v :: D) c = _
    rw [evF, if_neg n1, if_neg n2, if_neg n3, if_neg n4, if_neg n5, if_neg n6]
    rfl
  · rw [List.reverse_cons, List.reverse_append, List.append_assoc, List.append_assoc]
    refine h1.2 _ _ (h2.2 _ _ ?_)
    show okT (t :: R) (d + 1 + 1)
    rw [okT, if_neg n1, if_neg (by omega), if_neg (by omega), if_neg n6]
    exact ⟨ht, by omega, o⟩
/-- what is pending is settled up to here -/
def LqB (k : Int) : List Int → Prop
  | [] => True
  | p :: _ => p = 40 ∨ (1 ≤ strF p ∧ strF p < k)
theorem LqB.up {k j : Int} {P : List Int} (h : LqB k P) (hk : k ≤ j) : LqB j P := by
  cases P with
  | nil => trivial
  | cons p P =>
    have h : p = 40 ∨ (1 ≤ strF p ∧ strF p < k) := h
    show p = 40 ∨ (1 ≤ strF p ∧ strF p < j)
    omega
theorem LqB.stlE {k : Int} {P : List Int} (h : LqB k P) (K : List Int) : stl k P K = (P, K) := by
  cases P with
  | nil => rfl
  | cons p P =>
    have h : p = 40 ∨ (1 ≤ strF p ∧ strF p < k) := h
    unfold stl
    rw [if_neg (by omega)]
theorem LqB.bndE {k : Int} {P : List Int} (h : LqB k P) (K : List Int) (O : Int) : bnd P K O = (P, (K, O)) := by
  cases P with
  | nil => rfl
  | cons p P =>
    have h : p = 40 ∨ (1 ≤ strF p ∧ strF p < k) := h
    have n1 : p ≠ 33 := fun z => by rw [z] at h; revert h; unfold strF; omega
    have n2 : p ≠ 95 := fun z => by rw [z] at h; revert h; unfold strF; omega
    unfold bnd
    rw [if_neg (by omega)]
theorem stl_stl {k L : Int} (hk : k ≤ L) : ∀ P K : List Int, stl k P K = stl k (stl L P K).1 (stl L P K).2
  | [], K => rfl
  | p :: P, K => by
    by_cases z : p ≠ 40 ∧ L ≤ strF p
    · have e : stl L (p :: P) K = stl L P (p :: K) := by
        conv => lhs; unfold stl
        rw [if_pos z]
      have e2 : stl k (p :: P) K = stl k P (p :: K) := by
        conv => lhs; unfold stl
        rw [if_pos ⟨z.1, by omega⟩]
      rw [e, e2]
      exact stl_stl hk P (p :: K)
    · have e : stl L (p :: P) K = (p :: P, K) := by
        conv => lhs; unfold stl
        rw [if_neg z]
      rw [e]
/-- what may stand behind -/
def LqN (k s c : Int) : Prop := (k ≤ 5 → strF c ≠ 5) ∧ (k ≤ 4 → strF c ≠ 4) ∧ (k ≤ 3 → strF c = 3 → s = 1) ∧ (k ≤ 2 → strF c ≠ 2) ∧ (k ≤ 1 → strF c ≠ 1)
theorem strF_m1 : strF (-1) = 0 := rfl
theorem LqN.none {k s : Int} : LqN k s (-1) := ⟨fun _ => by decide, fun _ => by decide, fun _ h => absurd h (by decide), fun _ => by decide, fun _ => by decide⟩
/-- a level's reading: R the reference's end, from A on -/
def LqR (T : Nat → Int) (E : Int) (nm : Int → Int) (k : Int) (R : Int × RS) (A : Int) (P K : List Int) (O s : Int) (S : List Int) (C : Int) (q : Int × St) : Prop := (q.2.2 = -1 ∧ A ≤ q.2.1 ∧ q.2.1 ≤ E ∧ ∃ (P1 K1 : List Int) (s1 : Int) (code : List Int), R = RQ T E false q.2.1 P1 K1 O s1 S C ∧ stl k P1 K1 = (P, code ++ K) ∧ LqC nm code q.1 ∧ (4 ≤ k → s1 = s) ∧ LqN k s1 (nx T E q.2)) ∨ (q.2.2 ≠ -1 ∧ R.1 = 0 ∧ R.2.1 = q.2.2)
def LqL (T : Nat → Int) (E : Int) (nm : Int → Int) (k : Int) (b : PF) (O : Int) : Prop := ∀ (A : Int) (P K : List Int) (s : Int) (S : List Int) (C : Int), 0 ≤ A → A ≤ E → LqB k P → (k ≤ 3 → s = 0) → LqR T E nm k (RQ T E true A P K O s S C) A P K O s S C (b (A, -1))
def LqS (T : Nat → Int) (E : Int) (nm : Int → Int) (b : PF) (O : Int) : Prop := ∀ (A : Int) (P K : List Int) (s : Int) (S : List Int) (C : Int), 0 ≤ A → A ≤ E → ((b (A, -1)).2.2 = -1 ∧ A ≤ (b (A, -1)).2.1 ∧ (b (A, -1)).2.1 ≤ E ∧ ∃ code : List Int, RQ T E true A P K O s S C = RQ T E false (b (A, -1)).2.1 (bnd P (code ++ K) O).1 (bnd P (code ++ K) O).2.1 (bnd P (code ++ K) O).2.2 s S C ∧ LqC nm code (b (A, -1)).1) ∨ ((b (A, -1)).2.2 ≠ -1 ∧ (RQ T E true A P K O s S C).1 = 0 ∧ (RQ T E true A P K O s S C).2.1 = (b (A, -1)).2.2)
theorem LqS.lev {T : Nat → Int} {E : Int} {nm : Int → Int} {b : PF} {O : Int} (h : LqS T E nm b O) : LqL T E nm 6 b O := by
  intro A P K s S C h0 h1 hB _
  rcases h A P K s S C h0 h1 with ⟨a1, a2, a3, code, a4, a5⟩ | a
  · refine Or.inl ⟨a1, a2, a3, P, code ++ K, s, code, ?_, hB.stlE _, a5, fun _ => rfl, ⟨fun z => absurd z (by decide), fun z => absurd z (by decide), fun z => absurd z (by decide), fun z => absurd z (by decide), fun z => absurd z (by decide)⟩⟩
    rw [a4, hB.bndE]
  · exact Or.inr a
theorem nx_nf {T : Nat → Int} {E : Int} {s : St} (h : s.2 ≠ -1) : nx T E s = -1 := if_pos (Or.inl h)
theorem nx_on {T : Nat → Int} {E A : Int} (h : A < E) : nx T E (A, -1) = BQ T A.toNat := if_neg (fun z => z.elim (fun y => y rfl) (fun y => by have y : E ≤ A := y; omega))
theorem nx_end {T : Nat → Int} {E A : Int} (h : E ≤ A) : nx T E (A, -1) = -1 := if_pos (Or.inr h)
theorem nx_op {T : Nat → Int} {E A : Int} (h : strF (nx T E (A, -1)) ≠ 0) : A < E ∧ nx T E (A, -1) = BQ T A.toNat := by
  by_cases z : A < E
  · exact ⟨z, nx_on z⟩
  · rw [nx_end (by omega)] at h
    exact absurd strF_m1 h
/-- an operation's sign, and what stands behind it -/
theorem LqR.op {T : Nat → Int} {E : Int} {nm : Int → Int} {k j : Int} {b : PF} {O : Int} (hb : LqL T E nm j b O) (hj : j = k + 1) {R : Int × RS} {A s1 : Int} {P K P1 K1 S code : List Int} {C v : Int} (hR : R = RQ T E false A P1 K1 O s1 S C) (h0 : 0 ≤ A) (hk : 1 ≤ k) (hs : stl k P1 K1 = (P, code ++ K)) (hc : strF (nx T E (A, -1)) = k) (h3 : k = 3 → s1 ≠ 1) (hP : LqB k P) (hv : LqC nm code v) : ((b (A + 1, -1)).2.2 = -1 ∧ A + 1 ≤ (b (A + 1, -1)).2.1 ∧ (b (A + 1, -1)).2.1 ≤ E ∧ ∃ (P3 K3 : List Int) (s3 : Int) (code3 : List Int), R = RQ T E false (b (A + 1, -1)).2.1 P3 K3 O s3 S C ∧ stl k P3 K3 = (P, code3 ++ K) ∧ LqC nm code3 (twF (nx T E (A, -1)) v (b (A + 1, -1)).1) ∧ (4 ≤ k → s3 = s1) ∧ (k = 3 → s3 = 1) ∧ LqN j s3 (nx T E (b (A + 1, -1)).2)) ∨ ((b (A + 1, -1)).2.2 ≠ -1 ∧ R.1 = 0 ∧ R.2.1 = (b (A + 1, -1)).2.2) := by
  obtain ⟨hE, hn⟩ := nx_op (T := T) (E := E) (A := A) (by omega)
  rw [hn] at hc ⊢
  have st := RQ_op (T := T) (P := P1) (K := K1) (O := O) (s := s1) (S := S) (C := C) hE (by omega) (fun z => h3 (by omega))
  rw [hc, hs] at st
  generalize hw : (if k < 3 then (0 : Int) else if k = 3 then 1 else s1) = s2 at st
  have e2 : (k ≤ 2 → s2 = 0) ∧ (k = 3 → s2 = 1) ∧ (4 ≤ k → s2 = s1) := by
    subst hw
    refine ⟨fun z => if_pos (by omega), fun z => ?_, fun z => ?_⟩
    · rw [if_neg (by omega), if_pos z]
    · rw [if_neg (by omega), if_neg (by omega)]
  have hB : LqB j (BQ T A.toNat :: P) := Or.inr ⟨by omega, by omega⟩
  have n40 : BQ T A.toNat ≠ 40 := fun z => by
    rw [z] at hc
    have : strF 40 = 0 := rfl
    omega
  rcases hb (A + 1) (BQ T A.toNat :: P) (code ++ K) s2 S C (by omega) (by omega) hB (fun z => e2.1 (by omega)) with ⟨a1, a2, a3, P3, K3, s3, code3, a4, a5, a6, a7, a8⟩ | ⟨a1, a2, a3⟩
  · refine Or.inl ⟨a1, a2, a3, P3, K3, s3, BQ T A.toNat :: (code3 ++ code), ?_, ?_, hv.two a6 (opP_str (by omega)), fun z => ?_, fun z => ?_, a8⟩
    · rw [hR, st]
      exact a4
    · rw [stl_stl (k := k) (L := j) (by omega), a5]
      show stl k (BQ T A.toNat :: P) (code3 ++ (code ++ K)) = _
      have e : stl k (BQ T A.toNat :: P) (code3 ++ (code ++ K)) = stl k P (BQ T A.toNat :: (code3 ++ (code ++ K))) := by
        conv => lhs; unfold stl
        rw [if_pos ⟨n40, by omega⟩]
      rw [e, hP.stlE, List.cons_append, List.append_assoc]
    · rw [a7 (by omega)]
      exact e2.2.2 z
    · rw [a7 (by omega)]
      exact e2.2.1 z
  · refine Or.inr ⟨a1, ?_, ?_⟩
    · rw [hR, st]
      exact a2
    · rw [hR, st]
      exact a3
theorem st_eta {q : Int × St} (h : q.2.2 = -1) : q.2 = (q.2.1, -1) := Prod.ext rfl h
section LOOPS
variable {T : Nat → Int} {E : Int} {nm : Int → Int} {b : PF} {O : Int}
theorem pdL_f {n : Nat} {v : Int} {s : St} (h : s.2 ≠ -1) : (pdL T E b n v s).2 = s := by
  cases n with
  | zero => rfl
  | succ n =>
    unfold pdL
    rw [nx_nf h, if_neg (by decide), if_neg (by decide), if_neg (by decide)]
theorem smL_f {n : Nat} {v : Int} {s : St} (h : s.2 ≠ -1) : (smL T E b n v s).2 = s := by
  cases n with
  | zero => rfl
  | succ n =>
    unfold smL
    rw [nx_nf h, if_neg (by decide), if_neg (by decide)]
theorem anL_f {n : Nat} {v : Int} {s : St} (h : s.2 ≠ -1) : (anL T E b n v s).2 = s := by
  cases n with
  | zero => rfl
  | succ n =>
    unfold anL
    rw [nx_nf h, if_neg (by decide)]
theorem orL_f {n : Nat} {v : Int} {s : St} (h : s.2 ≠ -1) : (orL T E b n v s).2 = s := by
  cases n with
  | zero => rfl
  | succ n =>
    unfold orL
    rw [nx_nf h, if_neg (by decide)]
theorem str_5 {c : Int} : strF c = 5 ↔ c = 42 ∨ c = 47 ∨ c = 37 := by unfold strF; (repeat' split) <;> omega
theorem str_4 {c : Int} : strF c = 4 ↔ c = 43 ∨ c = 45 := by unfold strF; (repeat' split) <;> omega
theorem str_3 {c : Int} : strF c = 3 ↔ c = 60 ∨ c = 61 ∨ c = 62 := by unfold strF; (repeat' split) <;> omega
theorem str_2 {c : Int} : strF c = 2 ↔ c = 38 := by unfold strF; (repeat' split) <;> omega
theorem str_1 {c : Int} : strF c = 1 ↔ c = 124 := by unfold strF; (repeat' split) <;> omega
theorem pdL_Q (hb : LqL T E nm 6 b O) {R : Int × RS} {A0 s : Int} {P K S : List Int} {C : Int} (hP : LqB 5 P) : ∀ (n : Nat) (A v : Int) (P1 K1 code : List Int), 0 ≤ A → A0 ≤ A → A ≤ E → E - A ≤ n → R = RQ T E false A P1 K1 O s S C → stl 5 P1 K1 = (P, code ++ K) → LqC nm code v → LqR T E nm 5 R A0 P K O s S C (pdL T E b n v (A, -1)) := by
  intro n
  induction n with
  | zero =>
    intro A v P1 K1 code h0 hA0 hA hn hR hs hv
    refine Or.inl ⟨rfl, hA0, hA, P1, K1, s, code, hR, hs, hv, fun _ => rfl, ?_⟩
    show LqN 5 s (nx T E (A, -1))
    rw [nx_end (by omega)]
    exact LqN.none
  | succ n ih =>
    intro A v P1 K1 code h0 hA0 hA hn hR hs hv
    have key : ∀ w : Int, strF (nx T E (A, -1)) = 5 → w = twF (nx T E (A, -1)) v (b (A + 1, -1)).1 → LqR T E nm 5 R A0 P K O s S C (pdL T E b n w (b (A + 1, -1)).2) := fun w hc hw => by
      rcases LqR.op (k := 5) hb rfl hR h0 (by decide) hs hc (fun z => absurd z (by decide)) hP hv with ⟨a1, a2, a3, P3, K3, s3, code3, a4, a5, a6, a7, _, a8⟩ | ⟨a1, a2, a3⟩
      · rw [st_eta a1]
        have e : s3 = s := a7 (by decide)
        subst e
        exact ih _ w P3 K3 code3 (by omega) (by omega) a3 (by omega) a4 a5 (by rw [hw]; exact a6)
      · refine Or.inr ?_
        rw [pdL_f a1]
        exact ⟨a1, a2, a3⟩
    unfold pdL
    by_cases c1 : nx T E (A, -1) = 42
    · rw [if_pos c1]
      exact key _ (by rw [c1]; rfl) (by rw [c1]; rfl)
    · rw [if_neg c1]
      by_cases c2 : nx T E (A, -1) = 47
      · rw [if_pos c2]
        exact key _ (by rw [c2]; rfl) (by rw [c2]; rfl)
      · rw [if_neg c2]
        by_cases c3 : nx T E (A, -1) = 37
        · rw [if_pos c3]
          exact key _ (by rw [c3]; rfl) (by rw [c3]; rfl)
        · rw [if_neg c3]
          refine Or.inl ⟨rfl, hA0, hA, P1, K1, s, code, hR, hs, hv, fun _ => rfl, ⟨fun _ z => ?_, fun z => absurd z (by decide), fun z => absurd z (by decide), fun z => absurd z (by decide), fun z => absurd z (by decide)⟩⟩
          have := str_5.mp (show strF (nx T E (A, -1)) = 5 from z)
          omega
theorem pdF_Q (hb : LqL T E nm 6 b O) (hE : E ≤ 120) : LqL T E nm 5 (pdF T E b) O := by
  intro A P K s S C h0 h1 hB _
  unfold pdF
  rcases hb A P K s S C h0 h1 (hB.up (by decide)) (fun z => absurd z (by decide)) with ⟨a1, a2, a3, P1, K1, s1, code, a4, a5, a6, a7, a8⟩ | a
  · have e : s1 = s := a7 (by decide)
    subst e
    rw [st_eta a1]
    exact pdL_Q hb hB 120 _ _ P1 K1 code (by omega) a2 a3 (by omega) a4 (by rw [stl_stl (k := 5) (L := 6) (by decide), a5]; exact hB.stlE _) a6
  · refine Or.inr ?_
    rw [pdL_f a.1]
    exact a
theorem smL_Q (hb : LqL T E nm 5 b O) {R : Int × RS} {A0 s : Int} {P K S : List Int} {C : Int} (hP : LqB 4 P) : ∀ (n : Nat) (A v : Int) (P1 K1 code : List Int), 0 ≤ A → A0 ≤ A → A ≤ E → E - A ≤ n → R = RQ T E false A P1 K1 O s S C → stl 4 P1 K1 = (P, code ++ K) → LqC nm code v → LqN 5 s (nx T E (A, -1)) → LqR T E nm 4 R A0 P K O s S C (smL T E b n v (A, -1)) := by
  intro n
  induction n with
  | zero =>
    intro A v P1 K1 code h0 hA0 hA hn hR hs hv hN
    refine Or.inl ⟨rfl, hA0, hA, P1, K1, s, code, hR, hs, hv, fun _ => rfl, ?_⟩
    show LqN 4 s (nx T E (A, -1))
    rw [nx_end (by omega)]
    exact LqN.none
  | succ n ih =>
    intro A v P1 K1 code h0 hA0 hA hn hR hs hv hN
    have key : ∀ w : Int, strF (nx T E (A, -1)) = 4 → w = twF (nx T E (A, -1)) v (b (A + 1, -1)).1 → LqR T E nm 4 R A0 P K O s S C (smL T E b n w (b (A + 1, -1)).2) := fun w hc hw => by
      rcases LqR.op (k := 4) hb rfl hR h0 (by decide) hs hc (fun z => absurd z (by decide)) hP hv with ⟨a1, a2, a3, P3, K3, s3, code3, a4, a5, a6, a7, _, a8⟩ | ⟨a1, a2, a3⟩
      · have e : s3 = s := a7 (by decide)
        subst e
        rw [st_eta a1] at a8 ⊢
        exact ih _ w P3 K3 code3 (by omega) (by omega) a3 (by omega) a4 a5 (by rw [hw]; exact a6) a8
      · refine Or.inr ?_
        rw [smL_f a1]
        exact ⟨a1, a2, a3⟩
    unfold smL
    by_cases c1 : nx T E (A, -1) = 43
    · rw [if_pos c1]
      exact key _ (by rw [c1]; rfl) (by rw [c1]; rfl)
    · rw [if_neg c1]
      by_cases c2 : nx T E (A, -1) = 45
      · rw [if_pos c2]
        exact key _ (by rw [c2]; rfl) (by rw [c2]; rfl)
      · rw [if_neg c2]
        refine Or.inl ⟨rfl, hA0, hA, P1, K1, s, code, hR, hs, hv, fun _ => rfl, ⟨fun _ => hN.1 (by decide), fun _ z => ?_, fun z => absurd z (by decide), fun z => absurd z (by decide), fun z => absurd z (by decide)⟩⟩
        have := str_4.mp (show strF (nx T E (A, -1)) = 4 from z)
        omega
theorem smF2_Q (hb : LqL T E nm 6 b O) (hE : E ≤ 120) : LqL T E nm 4 (smF2 T E b) O := by
  intro A P K s S C h0 h1 hB _
  have hp := pdF_Q hb hE
  unfold smF2
  rcases hp A P K s S C h0 h1 (hB.up (by decide)) (fun z => absurd z (by decide)) with ⟨a1, a2, a3, P1, K1, s1, code, a4, a5, a6, a7, a8⟩ | a
  · have e : s1 = s := a7 (by decide)
    subst e
    rw [st_eta a1] at a8 ⊢
    exact smL_Q hp hB 120 _ _ P1 K1 code (by omega) a2 a3 (by omega) a4 (by rw [stl_stl (k := 4) (L := 5) (by decide), a5]; exact hB.stlE _) a6 a8
  · refine Or.inr ?_
    rw [smL_f a.1]
    exact a
theorem cpF_Q (hb : LqL T E nm 6 b O) (hE : E ≤ 120) : LqL T E nm 3 (cpF T E b) O := by
  intro A P K s S C h0 h1 hB hs0
  have hp := smF2_Q hb hE
  have e0 : s = 0 := hs0 (by decide)
  unfold cpF cmF
  rcases hp A P K s S C h0 h1 (hB.up (by decide)) (fun z => absurd z (by decide)) with ⟨a1, a2, a3, P1, K1, s1, code, a4, a5, a6, a7, a8⟩ | a
  · have e : s1 = s := a7 (by decide)
    subst e
    generalize smF2 T E b (A, -1) = q0 at a1 a2 a3 a4 a6 a8 ⊢
    rw [st_eta a1] at a8 ⊢
    have es : stl 3 P1 K1 = (P, code ++ K) := by rw [stl_stl (k := 3) (L := 4) (by decide), a5]; exact hB.stlE _
    have key : ∀ w : Int, strF (nx T E (q0.2.1, -1)) = 3 → w = twF (nx T E (q0.2.1, -1)) q0.1 (smF2 T E b (q0.2.1 + 1, -1)).1 → LqR T E nm 3 (RQ T E true A P K O s1 S C) A P K O s1 S C (w, (smF2 T E b (q0.2.1 + 1, -1)).2) := fun w hc hw => by
      rcases LqR.op (k := 3) hp rfl a4 (by omega) (by decide) es hc (fun _ => by omega) hB a6 with ⟨b1, b2', b3, P3, K3, s3, code3, b4, b5, b6, _, b7, b8⟩ | ⟨b1, b2', b3⟩
      · refine Or.inl ⟨b1, ?_, b3, P3, K3, s3, code3, b4, b5, by rw [hw]; exact b6, fun z => absurd z (by decide), ⟨fun _ => b8.1 (by decide), fun _ => b8.2.1 (by decide), fun _ _ => b7 rfl, fun z => absurd z (by decide), fun z => absurd z (by decide)⟩⟩
        show A ≤ (smF2 T E b (q0.2.1 + 1, -1)).2.1
        omega
      · exact Or.inr ⟨b1, b2', b3⟩
    by_cases c1 : nx T E (q0.2.1, -1) = 60
    · rw [if_pos c1]
      exact key _ (by rw [c1]; rfl) (by rw [c1]; rfl)
    · rw [if_neg c1]
      by_cases c2 : nx T E (q0.2.1, -1) = 61
      · rw [if_pos c2]
        exact key _ (by rw [c2]; rfl) (by rw [c2]; rfl)
      · rw [if_neg c2]
        by_cases c3 : nx T E (q0.2.1, -1) = 62
        · rw [if_pos c3]
          exact key _ (by rw [c3]; rfl) (by rw [c3]; rfl)
        · rw [if_neg c3]
          refine Or.inl ⟨a1, a2, a3, P1, K1, s1, code, a4, es, a6, fun z => absurd z (by decide), ⟨fun _ => ?_, fun _ => ?_, fun _ z => ?_, fun z => absurd z (by decide), fun z => absurd z (by decide)⟩⟩
          · rw [st_eta a1]
            exact a8.1 (by decide)
          · rw [st_eta a1]
            exact a8.2.1 (by decide)
          · rw [st_eta a1] at z
            have := str_3.mp z
            omega
  · have f := nx_nf (T := T) (E := E) a.1
    rw [f, if_neg (by decide), if_neg (by decide), if_neg (by decide)]
    exact Or.inr a
theorem anL_Q (hb : LqL T E nm 3 b O) {R : Int × RS} {A0 s : Int} {P K S : List Int} {C : Int} (hP : LqB 2 P) : ∀ (n : Nat) (A v s1 : Int) (P1 K1 code : List Int), 0 ≤ A → A0 ≤ A → A ≤ E → E - A ≤ n → R = RQ T E false A P1 K1 O s1 S C → stl 2 P1 K1 = (P, code ++ K) → LqC nm code v → LqN 3 s1 (nx T E (A, -1)) → LqR T E nm 2 R A0 P K O s S C (anL T E b n v (A, -1)) := by
  intro n
  induction n with
  | zero =>
    intro A v s1 P1 K1 code h0 hA0 hA hn hR hs hv hN
    refine Or.inl ⟨rfl, hA0, hA, P1, K1, s1, code, hR, hs, hv, fun z => absurd z (by decide), ?_⟩
    show LqN 2 s1 (nx T E (A, -1))
    rw [nx_end (by omega)]
    exact LqN.none
  | succ n ih =>
    intro A v s1 P1 K1 code h0 hA0 hA hn hR hs hv hN
    unfold anL
    by_cases c1 : nx T E (A, -1) = 38
    · rw [if_pos c1]
      rcases LqR.op (k := 2) hb rfl hR h0 (by decide) hs (by rw [c1]; rfl) (fun z => absurd z (by decide)) hP hv with ⟨a1, a2, a3, P3, K3, s3, code3, a4, a5, a6, _, _, a8⟩ | ⟨a1, a2, a3⟩
      · rw [c1] at a6
        rw [st_eta a1] at a8 ⊢
        exact ih _ _ s3 P3 K3 code3 (by omega) (by omega) a3 (by omega) a4 a5 a6 a8
      · refine Or.inr ?_
        rw [anL_f a1]
        exact ⟨a1, a2, a3⟩
    · rw [if_neg c1]
      refine Or.inl ⟨rfl, hA0, hA, P1, K1, s1, code, hR, hs, hv, fun z => absurd z (by decide), ⟨fun _ => hN.1 (by decide), fun _ => hN.2.1 (by decide), fun _ => hN.2.2.1 (by decide), fun _ z => c1 (str_2.mp z), fun z => absurd z (by decide)⟩⟩
theorem anF_Q (hb : LqL T E nm 6 b O) (hE : E ≤ 120) : LqL T E nm 2 (anF T E b) O := by
  intro A P K s S C h0 h1 hB hs0
  have hp := cpF_Q hb hE
  unfold anF
  rcases hp A P K s S C h0 h1 (hB.up (by decide)) (fun _ => hs0 (by decide)) with ⟨a1, a2, a3, P1, K1, s1, code, a4, a5, a6, a7, a8⟩ | a
  · rw [st_eta a1] at a8 ⊢
    exact anL_Q hp hB 120 _ _ s1 P1 K1 code (by omega) a2 a3 (by omega) a4 (by rw [stl_stl (k := 2) (L := 3) (by decide), a5]; exact hB.stlE _) a6 a8
  · refine Or.inr ?_
    rw [anL_f a.1]
    exact a
theorem orL_Q (hb : LqL T E nm 2 b O) {R : Int × RS} {A0 s : Int} {P K S : List Int} {C : Int} (hP : LqB 1 P) : ∀ (n : Nat) (A v s1 : Int) (P1 K1 code : List Int), 0 ≤ A → A0 ≤ A → A ≤ E → E - A ≤ n → R = RQ T E false A P1 K1 O s1 S C → stl 1 P1 K1 = (P, code ++ K) → LqC nm code v → LqN 2 s1 (nx T E (A, -1)) → LqR T E nm 1 R A0 P K O s S C (orL T E b n v (A, -1)) := by
  intro n
  induction n with
  | zero =>
    intro A v s1 P1 K1 code h0 hA0 hA hn hR hs hv hN
    refine Or.inl ⟨rfl, hA0, hA, P1, K1, s1, code, hR, hs, hv, fun z => absurd z (by decide), ?_⟩
    show LqN 1 s1 (nx T E (A, -1))
    rw [nx_end (by omega)]
    exact LqN.none
  | succ n ih =>
    intro A v s1 P1 K1 code h0 hA0 hA hn hR hs hv hN
    unfold orL
    by_cases c1 : nx T E (A, -1) = 124
    · rw [if_pos c1]
      rcases LqR.op (k := 1) hb rfl hR h0 (by decide) hs (by rw [c1]; rfl) (fun z => absurd z (by decide)) hP hv with ⟨a1, a2, a3, P3, K3, s3, code3, a4, a5, a6, _, _, a8⟩ | ⟨a1, a2, a3⟩
      · rw [c1] at a6
        rw [st_eta a1] at a8 ⊢
        exact ih _ _ s3 P3 K3 code3 (by omega) (by omega) a3 (by omega) a4 a5 a6 a8
      · refine Or.inr ?_
        rw [orL_f a1]
        exact ⟨a1, a2, a3⟩
    · rw [if_neg c1]
      refine Or.inl ⟨rfl, hA0, hA, P1, K1, s1, code, hR, hs, hv, fun z => absurd z (by decide), ⟨fun _ => hN.1 (by decide), fun _ => hN.2.1 (by decide), fun _ => hN.2.2.1 (by decide), fun _ => hN.2.2.2.1 (by decide), fun _ z => c1 (str_1.mp z)⟩⟩
theorem eiF_Q (hb : LqL T E nm 6 b O) (hE : E ≤ 120) : LqL T E nm 1 (eiF T E b) O := by
  intro A P K s S C h0 h1 hB hs0
  have hp := anF_Q hb hE
  unfold eiF
  rcases hp A P K s S C h0 h1 (hB.up (by decide)) (fun _ => hs0 (by decide)) with ⟨a1, a2, a3, P1, K1, s1, code, a4, a5, a6, a7, a8⟩ | a
  · rw [st_eta a1] at a8 ⊢
    exact orL_Q hp hB 120 _ _ s1 P1 K1 code (by omega) a2 a3 (by omega) a4 (by rw [stl_stl (k := 1) (L := 2) (by decide), a5]; exact hB.stlE _) a6 a8
  · refine Or.inr ?_
    rw [orL_f a.1]
    exact a
end LOOPS
