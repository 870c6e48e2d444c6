/-! laws: a single one, read by both -/
abbrev LqV (V : Nat → Int) : Int → Int := fun t => V (nmI t).toNat
theorem nm_all : ∀ c : Fin 256, (0 ≤ nmI (c.val : Int) ↔ nmP (c.val : Int)) := by decide +kernel
theorem nm_iff {c : Int} (h0 : 0 ≤ c) (h1 : c ≤ 255) : 0 ≤ nmI c ↔ nmP c := by
  have q := nm_all ⟨c.toNat, by omega⟩
  have e : ((c.toNat : Nat) : Int) = c := by omega
  simp only [e] at q
  exact q
theorem nuF_M {T : Nat → Int} {E : Int} : ∀ (n : Nat) (v A : Int), 0 ≤ A → nuF T E n v (A, -1) = ((nuM (BQ T) E n v A).1, ((nuM (BQ T) E n v A).2, -1))
  | 0, v, A, _ => rfl
  | n + 1, v, A, h => by
    unfold nuF nuM
    by_cases hE : A < E
    · rw [nx_on hE]
      by_cases z : 48 ≤ BQ T A.toNat ∧ BQ T A.toNat ≤ 57
      · rw [if_pos z, if_pos ⟨hE, z⟩]
        exact nuF_M n _ (A + 1) (by omega)
      · rw [if_neg z, if_neg (fun y => z y.2)]
    · rw [nx_end (by omega), if_neg (by decide), if_neg (fun y => hE y.1)]
theorem nx_pos {T : Nat → Int} {E A c : Int} (h : nx T E (A, -1) = c) (hc : c ≠ -1) : A < E ∧ BQ T A.toNat = c := by
  by_cases z : A < E
  · rw [nx_on z] at h
    exact ⟨z, h⟩
  · rw [nx_end (by omega)] at h
    exact absurd h.symm hc
theorem flF_no {s : St} (h : s.2 ≠ -1) : flF s = s := by unfold flF; rw [if_neg h]
theorem flF_yes {s : St} (h : s.2 = -1) : flF s = (s.1, s.1) := by unfold flF; rw [if_pos h]
theorem bnd_pre {p : Int} (h : p = 33 ∨ p = 95) (P K : List Int) (O : Int) : bnd (p :: P) K (O + 1) = bnd P (p :: K) O := by
  conv => lhs; unfold bnd
  rw [if_pos h, show O + 1 - 1 = O by omega]
theorem sgB_Q {T : Nat → Int} {E : Int} {V : Nat → Int} (hT : ∀ j : Nat, inB (T j)) (r : Bool) {ei sg : PF} {O : Int} (hr : r = true → O < 6) (hr2 : r = false → O = 6) (he : r = true → LqL T E (LqV V) 1 ei (O + 1)) (hg : r = true → LqS T E (LqV V) sg (O + 1)) : LqS T E (LqV V) (sgB T E V r ei sg) O := by
  intro A P K s S C h0 h1
  have nr : ∀ c : Int, ¬ (r = true ∧ (-1 : Int) = c) ∨ c = -1 := fun c => by
    by_cases z : c = -1
    · exact Or.inr z
    · exact Or.inl (fun y => z y.2.symm)
  by_cases hE : A < E
  · have hn := nx_on (T := T) hE
    have hB := b255_in (hT A.toNat)
    by_cases c1 : 48 ≤ nx T E (A, -1) ∧ nx T E (A, -1) ≤ 57
    · have eq : sgB T E V r ei sg (A, -1) = ((nuM (BQ T) E 4 0 A).1, ((nuM (BQ T) E 4 0 A).2, -1)) := by
        unfold sgB
        rw [if_pos c1]
        exact nuF_M 4 0 A h0
      rw [eq]
      rw [hn] at c1
      have q := nuM_in (B := BQ T) (E := E) 4 0 A h1
      have q2 := (nuF_K (T := T) (E := E) 4 0 (A, -1) 0 (by decide) (by decide) (by decide) (by decide) ⟨h0, h1, Int.le_refl _, by show (-1 : Int) ≤ E; omega⟩).1.1
      rw [nuF_M 4 0 A h0] at q2
      exact Or.inl ⟨rfl, q.1, q.2, [1000 + (nuM (BQ T) E 4 0 A).1], RQ_num hE c1, LqC.num q2⟩
    · have c1' := c1
      rw [hn] at c1'
      by_cases c2 : 0 ≤ nmI (nx T E (A, -1))
      · have eq : sgB T E V r ei sg (A, -1) = (V (nmI (nx T E (A, -1))).toNat, (A + 1, -1)) := by
          unfold sgB
          rw [if_neg c1, if_pos c2]
        rw [eq, hn]
        rw [hn] at c2
        have c2' := (nm_iff hB.1 hB.2).mp c2
        refine Or.inl ⟨rfl, ?_, ?_, [BQ T A.toNat], RQ_name hE c1' c2', LqC.name (nm := LqV V) c2'⟩
        · show A ≤ A + 1
          omega
        · show A + 1 ≤ E
          omega
      · have c2' : ¬ nmP (BQ T A.toNat) := fun z => c2 (by rw [hn]; exact (nm_iff hB.1 hB.2).mpr z)
        by_cases c3 : r = true ∧ nx T E (A, -1) = 40
        · have eq : sgB T E V r ei sg (A, -1) = ((ei (A + 1, -1)).1, if nx T E (ei (A + 1, -1)).2 = 41 then ((ei (A + 1, -1)).2.1 + 1, (ei (A + 1, -1)).2.2) else flF (ei (A + 1, -1)).2) := by
            unfold sgB
            rw [if_neg c1, if_neg c2, if_pos c3]
          obtain ⟨hr1, c40⟩ := c3
          rw [hn] at c40
          have st := RQ_pre (P := P) (K := K) (O := O) (s := s) (S := S) (C := C) hE c1' c2' (Or.inr (Or.inr c40)) (by have := hr hr1; omega)
          rw [if_neg (show ¬ BQ T A.toNat = 45 by omega), if_pos c40, c40] at st
          have st2 : RQ T E true A P K O s S C = RQ T E true (A + 1) (40 :: P) K (O + 1) 0 (s :: S) C := st
          rcases he hr1 (A + 1) (40 :: P) K 0 (s :: S) C (by omega) (by omega) (Or.inl rfl) (fun _ => rfl) with ⟨a1, a2, a3, P1, K1, s1, code, a4, a5, a6, _, a8⟩ | a
          · have e0 : stl 0 P1 K1 = (40 :: P, code ++ K) := by
              rw [stl_stl (k := 0) (L := 1) (by decide), a5]
              exact LqB.stlE (k := 0) (P := 40 :: P) (Or.inl rfl) _
            rw [st_eta a1] at a8
            by_cases c4 : nx T E (ei (A + 1, -1)).2 = 41
            · rw [eq, if_pos c4]
              rw [st_eta a1] at c4
              have f := nx_pos c4 (by decide)
              refine Or.inl ⟨a1, ?_, ?_, code, ?_, a6⟩
              · show A ≤ (ei (A + 1, -1)).2.1 + 1
                omega
              · show (ei (A + 1, -1)).2.1 + 1 ≤ E
                omega
              · rw [st2, a4, RQ_close f.1 f.2, e0]
                show RQ T E false _ (bnd P (code ++ K) (O + 1 - 1)).1 (bnd P (code ++ K) (O + 1 - 1)).2.1 (bnd P (code ++ K) (O + 1 - 1)).2.2 s S C = _
                rw [show O + 1 - 1 = O by omega]
            · rw [eq, if_neg c4, flF_yes a1]
              have bad : RQ T E true A P K O s S C = (0, ((ei (A + 1, -1)).2.1, (P1, (K1, (O + 1, (s1 :: s :: S, C)))))) := by
                rw [st2, a4]
                by_cases f : (ei (A + 1, -1)).2.1 < E
                · rw [nx_on f] at a8
                  have g := strF_in (BQ T (ei (A + 1, -1)).2.1.toNat)
                  obtain ⟨n1, n2, n3, n4, n5⟩ := a8
                  have m1 := n1 (by decide)
                  have m2 := n2 (by decide)
                  have m3 := n3 (by decide)
                  have m4 := n4 (by decide)
                  have m5 := n5 (by decide)
                  refine RQ_bad f (fun z => absurd (by rw [st_eta a1, nx_on f]; exact z) c4) (fun _ => Or.inl (List.cons_ne_nil _ _)) ?_
                  by_cases z : strF (BQ T (ei (A + 1, -1)).2.1.toNat) = 3
                  · exact Or.inr ⟨z, m3 z⟩
                  · exact Or.inl (by omega)
                · rw [RQ_end (by omega), if_pos (Or.inr (List.cons_ne_nil _ _))]
              rw [bad]
              refine Or.inr ⟨?_, rfl, rfl⟩
              show (ei (A + 1, -1)).2.1 ≠ -1
              omega
          · rw [eq, if_neg (by rw [nx_nf a.1]; decide), flF_no a.1, st2]
            exact Or.inr a
        · by_cases c4 : r = true ∧ nx T E (A, -1) = 33
          · have eq : sgB T E V r ei sg (A, -1) = (b2 ((sg (A + 1, -1)).1 = 0), (sg (A + 1, -1)).2) := by
              unfold sgB
              rw [if_neg c1, if_neg c2, if_neg c3, if_pos c4]
            obtain ⟨hr1, c40⟩ := c4
            rw [hn] at c40
            have st := RQ_pre (P := P) (K := K) (O := O) (s := s) (S := S) (C := C) hE c1' c2' (Or.inl c40) (by have := hr hr1; omega)
            rw [if_neg (show ¬ BQ T A.toNat = 45 by omega), if_neg (show ¬ BQ T A.toNat = 40 by omega), c40] at st
            have st2 : RQ T E true A P K O s S C = RQ T E true (A + 1) (33 :: P) K (O + 1) s S C := st
            rcases hg hr1 (A + 1) (33 :: P) K s S C (by omega) (by omega) with ⟨a1, a2, a3, code, a4, a5⟩ | a
            · rw [eq]
              refine Or.inl ⟨a1, ?_, a3, 33 :: code, ?_, a5.not⟩
              · show A ≤ (sg (A + 1, -1)).2.1
                omega
              · rw [st2, a4, bnd_pre (Or.inl rfl)]
                rfl
            · rw [eq, st2]
              exact Or.inr a
          · by_cases c5 : r = true ∧ nx T E (A, -1) = 45
            · have eq : sgB T E V r ei sg (A, -1) = (wr (-(sg (A + 1, -1)).1), (sg (A + 1, -1)).2) := by
                unfold sgB
                rw [if_neg c1, if_neg c2, if_neg c3, if_neg c4, if_pos c5]
              obtain ⟨hr1, c40⟩ := c5
              rw [hn] at c40
              have st := RQ_pre (P := P) (K := K) (O := O) (s := s) (S := S) (C := C) hE c1' c2' (Or.inr (Or.inl c40)) (by have := hr hr1; omega)
              rw [if_pos c40, if_neg (show ¬ BQ T A.toNat = 40 by omega)] at st
              have st2 : RQ T E true A P K O s S C = RQ T E true (A + 1) (95 :: P) K (O + 1) s S C := st
              rcases hg hr1 (A + 1) (95 :: P) K s S C (by omega) (by omega) with ⟨a1, a2, a3, code, a4, a5⟩ | a
              · rw [eq]
                refine Or.inl ⟨a1, ?_, a3, 95 :: code, ?_, a5.neg⟩
                · show A ≤ (sg (A + 1, -1)).2.1
                  omega
                · rw [st2, a4, bnd_pre (Or.inr rfl)]
                  rfl
              · rw [eq, st2]
                exact Or.inr a
            · have eq : sgB T E V r ei sg (A, -1) = (0, (A, A)) := by
                unfold sgB
                rw [if_neg c1, if_neg c2, if_neg c3, if_neg c4, if_neg c5, flF_yes rfl]
              rw [hn] at c3 c4 c5
              have bad := RQ_no (P := P) (K := K) (O := O) (s := s) (S := S) (C := C) hE c1' c2' (by
                cases r with
                | true =>
                  refine Or.inl (fun z => ?_)
                  rcases z with z | z | z
                  · exact c4 ⟨rfl, z⟩
                  · exact c5 ⟨rfl, z⟩
                  · exact c3 ⟨rfl, z⟩
                | false => exact Or.inr (hr2 rfl))
              rw [eq, bad]
              refine Or.inr ⟨?_, rfl, rfl⟩
              show A ≠ -1
              omega
  · have hn := nx_end (T := T) (E := E) (A := A) (by omega)
    have eq : sgB T E V r ei sg (A, -1) = (0, (A, A)) := by
      unfold sgB
      rw [hn, if_neg (by decide), if_neg (by decide), if_neg (fun z => absurd z.2 (by decide)), if_neg (fun z => absurd z.2 (by decide)), if_neg (fun z => absurd z.2 (by decide)), flF_yes rfl]
    rw [eq, RQ_end (by omega), if_pos (Or.inl rfl)]
    refine Or.inr ⟨?_, rfl, rfl⟩
    show A ≠ -1
    omega
theorem sgF_Q {T : Nat → Int} {E : Int} {V : Nat → Int} (hT : ∀ j : Nat, inB (T j)) (hE : E ≤ 120) : ∀ d : Nat, d ≤ 6 → LqS T E (LqV V) (sgF T E V d) (6 - d)
  | 0, _ => sgB_Q hT false (fun z => absurd z (by decide)) (fun _ => by decide) (fun z => absurd z (by decide)) (fun z => absurd z (by decide))
  | d + 1, h => by
    have q := sgF_Q hT hE d (V := V) (by omega)
    have e : (6 : Int) - ((d + 1 : Nat) : Int) + 1 = 6 - (d : Nat) := by push_cast; omega
    exact sgB_Q hT true (fun _ => by push_cast; omega) (fun z => absurd z (by decide)) (fun _ => by rw [e]; exact eiF_Q q.lev hE) (fun _ => by rw [e]; exact q)
