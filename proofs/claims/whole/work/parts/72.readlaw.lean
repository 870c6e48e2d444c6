/-! laws: a whole text, read by both -/
def LqI (nm : Int → Int) (f v : Int) (K : List Int) : Prop := (f = 0 ∧ v = 0 ∧ ∀ R : List Int, evF nm (K.reverse ++ R) [] true = evF nm R [] true) ∨ (f = 1 ∧ ∀ R : List Int, evF nm (K.reverse ++ R) [] true = v)
def LqK (K : List Int) : Prop := ∀ R : List Int, okT R 0 → okT (K.reverse ++ R) 0
def LqE (nm : Int → Int) (v : Int) (z : St) (R : Int × RS) : Prop := (z.2 = -1 ∧ R.1 = 1 ∧ evF nm R.2.2.2.1.reverse [] true = v ∧ okT R.2.2.2.1.reverse 0) ∨ (z.2 ≠ -1 ∧ R.1 = 0 ∧ R.2.1 = z.2)
theorem ev_901 (nm : Int → Int) (R : List Int) (v : Int) (c : Bool) : evF nm (901 :: R) [v] c = if c = true then v else evF nm R [] true := by
  rw [evF, if_neg (by decide), if_neg (by decide), if_pos rfl]
  rfl
theorem ev_900 (nm : Int → Int) (R : List Int) (v : Int) (c : Bool) : evF nm (900 :: R) [v] c = evF nm R [] (decide (v ≠ 0)) := by
  rw [evF, if_neg (by decide), if_pos rfl]
  rfl
theorem ok_9 {R : List Int} {t : Int} (ht : t = 900 ∨ t = 901) (h : okT R 0) : okT (t :: R) 1 := by
  rw [okT, if_neg (by omega), if_pos ht]
  exact ⟨Nat.le_refl _, h⟩
theorem LqI.plain {nm : Int → Int} {f v : Int} {K code : List Int} {w : Int} (h : LqI nm f v K) (hc : LqC nm code w) (f1 v1 : Int) (h1 : f = 0 → f1 = 1 ∧ v1 = w) (h2 : f = 1 → f1 = 1 ∧ v1 = v) : LqI nm f1 v1 (901 :: (code ++ K)) := by
  have e : ∀ R : List Int, (901 :: (code ++ K)).reverse ++ R = K.reverse ++ (code.reverse ++ (901 :: R)) := fun R => by
    rw [List.reverse_cons, List.reverse_append, List.append_assoc, List.append_assoc]
    rfl
  rcases h with ⟨a, b, c⟩ | ⟨a, c⟩
  · obtain ⟨u1, u2⟩ := h1 a
    refine Or.inr ⟨u1, fun R => ?_⟩
    rw [e, c, hc.1, ev_901, if_pos rfl, u2]
  · obtain ⟨u1, u2⟩ := h2 a
    refine Or.inr ⟨u1, fun R => ?_⟩
    rw [e, c, u2]
theorem LqI.asked {nm : Int → Int} {f v : Int} {K code c2 : List Int} {w u : Int} (h : LqI nm f v K) (hc : LqC nm code w) (hu : LqC nm c2 u) (f1 v1 : Int) (h1 : f = 0 → w ≠ 0 → f1 = 1 ∧ v1 = u) (h3 : f = 0 → w = 0 → f1 = 0 ∧ v1 = v) (h2 : f = 1 → f1 = 1 ∧ v1 = v) : LqI nm f1 v1 (901 :: (c2 ++ (900 :: (code ++ K)))) := by
  have e : ∀ R : List Int, (901 :: (c2 ++ (900 :: (code ++ K)))).reverse ++ R = K.reverse ++ (code.reverse ++ (900 :: (c2.reverse ++ (901 :: R)))) := fun R => by
    simp only [List.reverse_cons, List.reverse_append, List.append_assoc, List.cons_append, List.nil_append]
  rcases h with ⟨a, b, c⟩ | ⟨a, c⟩
  · by_cases z : w = 0
    · obtain ⟨u1, u2⟩ := h3 a z
      refine Or.inl ⟨u1, by omega, fun R => ?_⟩
      rw [e, c, hc.1, ev_900, hu.1, ev_901, if_neg (by simp [z])]
    · obtain ⟨u1, u2⟩ := h1 a z
      refine Or.inr ⟨u1, fun R => ?_⟩
      rw [e, c, hc.1, ev_900, hu.1, ev_901, if_pos (by simp [z]), u2]
  · obtain ⟨u1, u2⟩ := h2 a
    refine Or.inr ⟨u1, fun R => ?_⟩
    rw [e, c, u2]
theorem LqK.plain {nm : Int → Int} {K code : List Int} {w : Int} (h : LqK K) (hc : LqC nm code w) : LqK (901 :: (code ++ K)) := fun R o => by
  have e : (901 :: (code ++ K)).reverse ++ R = K.reverse ++ (code.reverse ++ (901 :: R)) := by
    simp only [List.reverse_cons, List.reverse_append, List.append_assoc, List.cons_append, List.nil_append]
  rw [e]
  exact h _ (hc.2 _ _ (ok_9 (Or.inr rfl) o))
theorem LqK.asked {nm : Int → Int} {K code c2 : List Int} {w u : Int} (h : LqK K) (hc : LqC nm code w) (hu : LqC nm c2 u) : LqK (901 :: (c2 ++ (900 :: (code ++ K)))) := fun R o => by
  have e : (901 :: (c2 ++ (900 :: (code ++ K)))).reverse ++ R = K.reverse ++ (code.reverse ++ (900 :: (c2.reverse ++ (901 :: R)))) := by
    simp only [List.reverse_cons, List.reverse_append, List.append_assoc, List.cons_append, List.nil_append]
  rw [e]
  exact h _ (hc.2 _ _ (ok_9 (Or.inl rfl) (hu.2 _ _ (ok_9 (Or.inr rfl) o))))
theorem rdL_Q {T : Nat → Int} {E : Int} {nm : Int → Int} {b : PF} (hb : LqL T E nm 1 b 0) : ∀ (n : Nat) (A f v : Int) (K : List Int), 0 ≤ A → A ≤ E → E - A < n → LqI nm f v K → LqK K → LqE nm (rdL T E b n f v (A, -1)).1 (enF E (rdL T E b n f v (A, -1)).2) (RQ T E true A [] K 0 0 [] 0)
  | 0, A, f, v, K, h0, h1, hn, _, _ => by omega
  | n + 1, A, f, v, K, h0, h1, hn, hI, hK => by
    have ff : f = 0 ∨ f = 1 := hI.elim (fun z => Or.inl z.1) (fun z => Or.inr z.1)
    have bads : ∀ (v1 : Int) (z : St) (R : Int × RS), z.2 ≠ -1 → R.1 = 0 → R.2.1 = z.2 → LqE nm v1 (enF E z) R := fun v1 z R a b c => by
      have e : enF E z = z := by
        unfold enF
        split
        · exact flF_no a
        · rfl
      rw [e]
      exact Or.inr ⟨a, b, c⟩
    -- behind a clause
    have tail : ∀ (q : Int × St) (f1 v1 : Int) (P2 K2 : List Int) (s2 : Int) (KK : List Int) (C : Int), q.2.2 = -1 → A ≤ q.2.1 → q.2.1 ≤ E → RQ T E true A [] K 0 0 [] 0 = RQ T E false q.2.1 P2 K2 0 s2 [] C → stl 0 P2 K2 = ([], KK) → LqN 1 s2 (nx T E q.2) → (nx T E q.2 = 63 → C = 1) → LqI nm f1 v1 (901 :: KK) → LqK (901 :: KK) → LqE nm (if nx T E q.2 = 59 then rdL T E b n f1 v1 (q.2.1 + 1, q.2.2) else (v1, q.2)).1 (enF E (if nx T E q.2 = 59 then rdL T E b n f1 v1 (q.2.1 + 1, q.2.2) else (v1, q.2)).2) (RQ T E true A [] K 0 0 [] 0) := fun q f1 v1 P2 K2 s2 KK C a1 a2 a3 a4 a5 a6 a7 i1 i2 => by
      rw [st_eta a1] at a6 a7
      by_cases c : nx T E q.2 = 59
      · rw [if_pos c]
        rw [st_eta a1] at c
        have g := nx_pos c (by decide)
        have st := RQ_mark (T := T) (E := E) (P := P2) (K := K2) (O := 0) (s := s2) (C := C) g.1 (Or.inr g.2)
        rw [if_neg (by omega), if_neg (by omega), a5] at st
        rw [a4, st, a1]
        exact rdL_Q hb n (q.2.1 + 1) f1 v1 (901 :: KK) (by omega) (by omega) (by omega) i1 i2
      · rw [if_neg c]
        show LqE nm v1 (enF E q.2) _
        rw [a4, st_eta a1]
        rw [st_eta a1] at c
        by_cases g : q.2.1 < E
        · have e : enF E (q.2.1, -1) = (q.2.1, q.2.1) := by
            unfold enF
            rw [if_pos g]
            exact flF_yes rfl
          rw [e]
          rw [nx_on g] at a6 a7 c
          have st := strF_in (BQ T q.2.1.toNat)
          obtain ⟨n1, n2, n3, n4, n5⟩ := a6
          have m1 := n1 (by decide)
          have m2 := n2 (by decide)
          have m3 := n3 (by decide)
          have m4 := n4 (by decide)
          have m5 := n5 (by decide)
          rw [RQ_bad g (fun _ => rfl) (fun z => Or.inr (z.elim (fun y => ⟨y, a7 y⟩) (fun y => absurd y c))) (by
            by_cases z : strF (BQ T q.2.1.toNat) = 3
            · exact Or.inr ⟨z, m3 z⟩
            · exact Or.inl (by omega))]
          refine Or.inr ⟨?_, rfl, rfl⟩
          show q.2.1 ≠ -1
          omega
        · have e : enF E (q.2.1, -1) = (q.2.1, -1) := by
            unfold enF
            rw [if_neg g]
          rw [e, RQ_end (by omega), if_neg (fun z => z.elim (fun y => absurd y (by decide)) (fun y => y rfl)), a5]
          have o := i2 [] trivial
          rw [List.append_nil] at o
          refine Or.inl ⟨rfl, rfl, ?_, o⟩
          show evF nm (901 :: KK).reverse [] true = v1
          rcases i1 with ⟨_, u2, u3⟩ | ⟨_, u3⟩
          · have y := u3 []
            rw [List.append_nil] at y
            rw [y, u2]
            rfl
          · have y := u3 []
            rw [List.append_nil] at y
            exact y
    rw [rdL_step (n := n) (f := f) (v := v) (s := (A, -1)) _ _ _ rfl rfl rfl]
    rcases hb A [] K 0 [] 0 h0 h1 trivial (fun _ => rfl) with ⟨a1, a2, a3, P1, K1, s1, code, a4, a5, a6, _, a8⟩ | a
    · have e0 : stl 0 P1 K1 = ([], code ++ K) := by
        rw [stl_stl (k := 0) (L := 1) (by decide), a5]
        rfl
      by_cases c : nx T E (b (A, -1)).2 = 63
      · rw [if_pos c]
        have cc := c
        rw [st_eta a1] at cc
        have g := nx_pos cc (by decide)
        have st := RQ_mark (T := T) (E := E) (P := P1) (K := K1) (O := 0) (s := s1) (C := 0) g.1 (Or.inl ⟨g.2, by decide⟩)
        rw [if_pos g.2, if_pos g.2, e0] at st
        rw [a1]
        rcases hb ((b (A, -1)).2.1 + 1) [] (900 :: (code ++ K)) 0 [] 1 (by omega) (by omega) trivial (fun _ => rfl) with ⟨b1, b2', b3, P2, K2, s2, c2, b4, b5, b6, _, b8⟩ | d
        · refine tail _ _ _ P2 K2 s2 (c2 ++ (900 :: (code ++ K))) 1 b1 (by omega) b3 (by rw [a4, st]; exact b4) ?_ b8 (fun _ => rfl) (hI.asked a6 b6 _ _ (fun z y => ?_) (fun z y => ?_) (fun z => ?_)) (hK.asked a6 b6)
          · rw [stl_stl (k := 0) (L := 1) (by decide), b5]
            rfl
          · rw [if_pos ⟨z, Or.inr y⟩, if_pos ⟨z, Or.inr y⟩]
            exact ⟨rfl, rfl⟩
          · have nn : ¬ (f = 0 ∧ (¬ nx T E (b (A, -1)).2 = 63 ∨ (b (A, -1)).1 ≠ 0)) := fun w => w.2.elim (fun x => x c) (fun x => x y)
            rw [if_neg nn, if_neg nn]
            exact ⟨z, rfl⟩
          · have nn : ¬ (f = 0 ∧ (¬ nx T E (b (A, -1)).2 = 63 ∨ (b (A, -1)).1 ≠ 0)) := fun w => by omega
            rw [if_neg nn, if_neg nn]
            exact ⟨z, rfl⟩
        · rw [if_neg (by rw [nx_nf d.1]; decide)]
          exact bads _ _ _ d.1 (by rw [a4, st]; exact d.2.1) (by rw [a4, st]; exact d.2.2)
      · rw [if_neg c]
        refine tail _ _ _ P1 K1 s1 (code ++ K) 0 a1 a2 a3 a4 e0 a8 (fun z => absurd z c) (hI.plain a6 _ _ (fun z => ?_) (fun z => ?_)) (hK.plain a6)
        · rw [if_pos ⟨z, Or.inl c⟩, if_pos ⟨z, Or.inl c⟩]
          exact ⟨rfl, rfl⟩
        · have nn : ¬ (f = 0 ∧ (¬ nx T E (b (A, -1)).2 = 63 ∨ (b (A, -1)).1 ≠ 0)) := fun w => by omega
          rw [if_neg nn, if_neg nn]
          exact ⟨z, rfl⟩
    · have n63 : ¬ nx T E (b (A, -1)).2 = 63 := by rw [nx_nf a.1]; decide
      have n59 : ¬ nx T E (b (A, -1)).2 = 59 := by rw [nx_nf a.1]; decide
      rw [if_neg n63, if_neg n59]
      exact bads _ _ _ a.1 a.2.1 a.2.2
/-- a law's text: what the class says of it, what the reference says of it -/
theorem rdX_M {T : Nat → Int} {E : Int} (V : Nat → Int) (hT : ∀ j : Nat, inB (T j)) (h0 : 0 ≤ E) (hE : E ≤ 120) : LqE (LqV V) (rdX T E V).1 (rdX T E V).2 (rdM (BQ T) E 121 true 0 [] [] 0 0 [] 0) := by
  have q := rdL_Q (eiF_Q (sgF_Q (V := V) hT hE 6 (Nat.le_refl _)).lev hE) 121 0 0 0 [] (Int.le_refl _) h0 (by omega) (Or.inl ⟨rfl, rfl, fun R => rfl⟩) (fun R o => o)
  unfold RQ at q
  rw [rdM_fuel (E - 0 + 1).toNat 121 _ _ _ _ _ _ _ _ h0 (by omega) (by omega)] at q
  exact q
theorem nuM_row {B B2 : Nat → Int} {E : Int} (h : ∀ j : Nat, (j : Int) < E → B2 j = B j) : ∀ (n : Nat) (v A : Int), 0 ≤ A → nuM B2 E n v A = nuM B E n v A
  | 0, v, A, _ => rfl
  | n + 1, v, A, h0 => by
    unfold nuM
    by_cases z : A < E
    · rw [h A.toNat (by omega)]
      by_cases y : 48 ≤ B A.toNat ∧ B A.toNat ≤ 57
      · rw [if_pos ⟨z, y⟩, if_pos ⟨z, y⟩]
        exact nuM_row h n _ _ (by omega)
      · rw [if_neg (fun w => y w.2), if_neg (fun w => y w.2)]
    · rw [if_neg (fun w => z w.1), if_neg (fun w => z w.1)]
theorem wantF_row {B B2 : Nat → Int} {E A : Int} (h : ∀ j : Nat, (j : Int) < E → B2 j = B j) (h0 : 0 ≤ A) (P K : List Int) (O : Int) (S : List Int) (C b : Int) : wantF B2 E A P K O S C b = wantF B E A P K O S C b := by
  unfold wantF
  rw [nuM_row h 4 0 A h0]
theorem rdM_row {B B2 : Nat → Int} {E : Int} (h : ∀ j : Nat, (j : Int) < E → B2 j = B j) : ∀ (n : Nat) (w : Bool) (A : Int) (P K : List Int) (O s : Int) (S : List Int) (C : Int), 0 ≤ A → rdM B2 E n w A P K O s S C = rdM B E n w A P K O s S C
  | 0, w, A, P, K, O, s, S, C, h0 => rfl
  | n + 1, w, A, P, K, O, s, S, C, h0 => by
    by_cases hE : A < E
    · obtain ⟨r, hr⟩ : ∃ r, r = if w then wantF B E A P K O (s :: S) C (B A.toNat) else behF A P K O s S C (B A.toNat) := ⟨_, rfl⟩
      have hr2 : r = if w then wantF B2 E A P K O (s :: S) C (B2 A.toNat) else behF A P K O s S C (B2 A.toNat) := by
        rw [h A.toNat (by omega), wantF_row h h0]
        exact hr
      rw [rdM_step (n := n) r hr hE, rdM_step (n := n) r hr2 hE]
      by_cases z : r.1 < 0
      · rw [if_pos z, if_pos z]
      · rw [if_neg z, if_neg z]
        have q := stepA hr hE z
        exact rdM_row h n _ _ _ _ _ _ _ _ (by omega)
    · unfold rdM
      rw [if_neg hE, if_neg hE]
theorem rdM_len {B : Nat → Int} {E : Int} : ∀ (n : Nat) (w : Bool) (A : Int) (P K : List Int) (O s : Int) (S : List Int) (C : Int), WFr E (A, (P, (K, (O, (s :: S, C))))) → ((rdM B E n w A P K O s S C).2.2.2.1.length : Int) ≤ E + 1
  | 0, w, A, P, K, O, s, S, C, W => by
    obtain ⟨w1, w2, w3, w4, _⟩ := W
    simp only at w1 w2 w4
    show (K.length : Int) ≤ E + 1
    push_cast at w4
    omega
  | n + 1, w, A, P, K, O, s, S, C, W => by
    by_cases hE : A < E
    · obtain ⟨r, hr⟩ : ∃ r, r = if w then wantF B E A P K O (s :: S) C (B A.toNat) else behF A P K O s S C (B A.toNat) := ⟨_, rfl⟩
      have W2 : WFr E r.2 := by
        cases w with
        | true =>
          have e : r = wantF B E A P K O (s :: S) C (B A.toNat) := by rw [hr]; rfl
          rw [e]
          exact wantF_wf W rfl hE
        | false =>
          have e : r = behF A P K O s S C (B A.toNat) := by rw [hr]; rfl
          rw [e]
          exact behF_wf W hE
      rw [rdM_step (n := n) r hr hE]
      by_cases z : r.1 < 0
      · rw [if_pos z]
        obtain ⟨w1, w2, w3, w4, _⟩ := W2
        show (r.2.2.2.1.length : Int) ≤ E + 1
        push_cast at w4
        omega
      · rw [if_neg z]
        refine rdM_len n _ _ _ _ _ _ _ _ ?_
        have rl : 0 < r.2.2.2.2.2.1.length := by have := W2.2.2.2.2.2.2.1; omega
        rw [← list_ht rl]
        exact W2
    · unfold rdM
      rw [if_neg hE]
      obtain ⟨w1, w2, w3, w4, _⟩ := W
      simp only at w1 w2 w4
      push_cast at w4
      split
      · show (K.length : Int) ≤ E + 1
        omega
      · have q := (stl_in 0 P K).1
        show ((901 :: (stl 0 P K).2).length : Int) ≤ E + 1
        rw [List.length_cons]
        push_cast
        omega
