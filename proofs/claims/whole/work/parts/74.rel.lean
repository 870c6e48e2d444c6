/-! THE RELATION of the class's cells (of g) and the reference's (of h) -/
def RlA (g h : Hp) : Prop := g 0 10 = h 57 17 ∧ 0 ≤ g 0 10 ∧ g 0 10 ≤ 100
def RlB (g h : Hp) : Prop := (g 1 4 = h 57 13 ∧ g 2 = h 58 ∧ g 3 = h 59 ∧ g 4 = h 60 ∧ g 5 = h 61) ∧ (g 6 3 = h 57 14 ∧ g 7 = h 62 ∧ g 8 = h 63 ∧ g 9 = h 64) ∧ (g 10 1 = h 57 15 ∧ g 11 = h 65) ∧ (g 12 10 = h 57 16 ∧ g 13 = h 66 ∧ g 14 = h 67 ∧ g 15 = h 68 ∧ g 16 = h 69 ∧ g 17 = h 70) ∧ IXa g ∧ KO (g 12 10) (g 13) (g 15) (g 18) ∧ KO (g 12 10) (g 14) (g 15) (g 19)
def RlC (n ns : Int) (g h : Hp) : Prop := g 21 6 = h 57 22 ∧ g 21 7 = h 57 22 + h 57 23 ∧ 0 ≤ g 21 6 ∧ g 21 6 ≤ g 21 7 ∧ g 21 7 ≤ 40 ∧ (g 22 = h 71 ∧ g 23 = h 72 ∧ g 24 = h 73 ∧ g 25 = h 74) ∧ PChg (g 21 7) n ns (g 22) (g 23) (g 24) (g 25)
def RlL (g h : Hp) (l : Nat) : Prop := 0 ≤ g 34 l ∧ g 34 l ≤ 120 ∧ h 77 l ≤ h 77 (l + 1) ∧ okT (tokL h l) 0 ∧ (tokL h l).length ≤ 125 ∧ ∀ V : Nat → Int, evF (LqV V) (tokL h l) [] true = (rdX (g (30 + l)) (g 34 l) V).1
def RlD (g h : Hp) : Prop := g 26 4 = h 57 29 ∧ 0 ≤ g 26 4 ∧ g 26 4 ≤ 120 ∧ (∀ j : Nat, h 75 j = b255 (g 28 j)) ∧ g 26 5 = h 57 30 ∧ 0 ≤ g 26 5 ∧ g 26 5 ≤ 4 ∧ (∀ l : Nat, (l : Int) ≤ g 26 5 → 0 ≤ h 77 l ∧ h 77 l ≤ 121 * l) ∧ ∀ l : Nat, (l : Int) < g 26 5 → RlL g h l
def RlE (g h : Hp) : Prop := g 40 2 = h 57 49 ∧ g 41 = h 82 ∧ g 42 = h 83 ∧ PBelt (g 40 2) (g 41) (g 42)
def RlF (g h : Hp) : Prop := g 43 2 = h 57 52 ∧ 0 ≤ g 43 2 ∧ g 43 2 ≤ 50 ∧ g 44 = h 84 ∧ (∀ k : Nat, (k : Int) < g 43 2 → 0 ≤ g 44 k ∧ g 44 k ≤ 7) ∧ g 43 3 = h 57 53 ∧ 0 ≤ g 43 3 ∧ g 45 = h 85
def RlS (nb : Int) (g h : Hp) (s : Nat) : Prop := (g 47 s = 6 ∧ h 86 s = -2) ∨ (g 47 s = 5 ∧ h 86 s = -1 ∧ 0 ≤ g 48 s ∧ g 48 s < nb) ∨ (0 ≤ g 47 s ∧ g 47 s ≤ 4 ∧ h 86 s = g 47 s ∧ g 49 s = h 88 s)
def RlG (nb : Int) (g h : Hp) : Prop := PShe (g 47) (g 49) ∧ PSheM (h 86) (h 88) ∧ g 48 = h 87 ∧ (∀ s : Nat, s < 6 → RlS nb g h s) ∧ ∀ s j : Nat, s < 6 → j < 60 → g (51 + s) j = h 89 (60 * s + j)
/-- whose cell it is: 0 .. 6 as above, 9 a scratch -/
def gX (k j : Nat) : Nat := if k = 0 then 0 else if k ≤ 19 then 1 else if k = 20 then 9 else if k ≤ 25 then 2 else if k = 26 then (if j = 4 ∨ j = 5 then 3 else 9) else if k = 27 then 9 else if k ≤ 34 then 3 else if k ≤ 39 then 9 else if k ≤ 42 then 4 else if k ≤ 45 then 5 else 6
def gM (k j : Nat) : Nat := if k = 57 then (if j = 17 then 0 else if 13 ≤ j ∧ j ≤ 16 then 1 else if j = 22 ∨ j = 23 then 2 else if j = 29 ∨ j = 30 then 3 else if j = 49 then 4 else if j = 52 ∨ j = 53 then 5 else 9) else if k ≤ 70 then 1 else if k ≤ 74 then 2 else if k ≤ 77 then 3 else if k ≤ 81 then 9 else if k ≤ 83 then 4 else if k ≤ 85 then 5 else if k ≤ 89 then 6 else 9
/-- the same in the cells of t -/
def sX (t : Nat) (g g' : Hp) : Prop := ∀ k j : Nat, k < 57 → gX k j = t → g' k j = g k j
def sM (t : Nat) (h h' : Hp) : Prop := ∀ k j : Nat, 57 ≤ k → gM k j = t → h' k j = h k j
theorem sX.row {t : Nat} {g g' : Hp} (e : sX t g g') {k : Nat} (hk : k < 57) (z : ∀ j : Nat, gX k j = t) : g' k = g k := funext fun j => e k j hk (z j)
theorem sM.row {t : Nat} {g g' : Hp} (e : sM t g g') {k : Nat} (hk : 57 ≤ k) (z : ∀ j : Nat, gM k j = t) : g' k = g k := funext fun j => e k j hk (z j)
theorem RlA.fr {g h g' h' : Hp} (R : RlA g h) (e : sX 0 g g') (d : sM 0 h h') : RlA g' h' := by
  unfold RlA
  rw [e 0 10 (by decide) rfl, d 57 17 (by decide) rfl]
  exact R
theorem RlB.fr {g h g' h' : Hp} (R : RlB g h) (e : sX 1 g g') (d : sM 1 h h') : RlB g' h' := by
  unfold RlB IXa
  rw [e 1 4 (by decide) rfl, e 6 3 (by decide) rfl, e 10 1 (by decide) rfl, e 12 10 (by decide) rfl, e.row (k := 2) (by decide) (fun _ => rfl), e.row (k := 3) (by decide) (fun _ => rfl), e.row (k := 4) (by decide) (fun _ => rfl), e.row (k := 5) (by decide) (fun _ => rfl), e.row (k := 7) (by decide) (fun _ => rfl), e.row (k := 8) (by decide) (fun _ => rfl), e.row (k := 9) (by decide) (fun _ => rfl), e.row (k := 11) (by decide) (fun _ => rfl), e.row (k := 13) (by decide) (fun _ => rfl), e.row (k := 14) (by decide) (fun _ => rfl), e.row (k := 15) (by decide) (fun _ => rfl), e.row (k := 16) (by decide) (fun _ => rfl), e.row (k := 17) (by decide) (fun _ => rfl), e.row (k := 18) (by decide) (fun _ => rfl), e.row (k := 19) (by decide) (fun _ => rfl)]
  rw [d 57 13 (by decide) rfl, d 57 14 (by decide) rfl, d 57 15 (by decide) rfl, d 57 16 (by decide) rfl, d.row (k := 58) (by decide) (fun _ => rfl), d.row (k := 59) (by decide) (fun _ => rfl), d.row (k := 60) (by decide) (fun _ => rfl), d.row (k := 61) (by decide) (fun _ => rfl), d.row (k := 62) (by decide) (fun _ => rfl), d.row (k := 63) (by decide) (fun _ => rfl), d.row (k := 64) (by decide) (fun _ => rfl), d.row (k := 65) (by decide) (fun _ => rfl), d.row (k := 66) (by decide) (fun _ => rfl), d.row (k := 67) (by decide) (fun _ => rfl), d.row (k := 68) (by decide) (fun _ => rfl), d.row (k := 69) (by decide) (fun _ => rfl), d.row (k := 70) (by decide) (fun _ => rfl)]
  exact R
theorem RlC.fr {n ns : Int} {g h g' h' : Hp} (R : RlC n ns g h) (e : sX 2 g g') (d : sM 2 h h') : RlC n ns g' h' := by
  unfold RlC
  rw [e 21 6 (by decide) rfl, e 21 7 (by decide) rfl, e.row (k := 22) (by decide) (fun _ => rfl), e.row (k := 23) (by decide) (fun _ => rfl), e.row (k := 24) (by decide) (fun _ => rfl), e.row (k := 25) (by decide) (fun _ => rfl), d 57 22 (by decide) rfl, d 57 23 (by decide) rfl, d.row (k := 71) (by decide) (fun _ => rfl), d.row (k := 72) (by decide) (fun _ => rfl), d.row (k := 73) (by decide) (fun _ => rfl), d.row (k := 74) (by decide) (fun _ => rfl)]
  exact R
theorem RlC.up {n ns n' ns' : Int} {g h : Hp} (R : RlC n ns g h) (h1 : n ≤ n') (h2 : ns ≤ ns') : RlC n' ns' g h := by
  obtain ⟨a1, a2, a3, a4, a5, a6, a7⟩ := R
  refine ⟨a1, a2, a3, a4, a5, a6, fun k hk => ?_⟩
  have q := a7 k hk
  unfold okC at q ⊢
  omega
theorem RlL.fr {g h g' h' : Hp} {l : Nat} (hl : l < 4) (R : RlL g h l) (e : sX 3 g g') (d : sM 3 h h') : RlL g' h' l := by
  have e1 : g' 34 = g 34 := e.row (by decide) (fun _ => rfl)
  have e2 : g' (30 + l) = g (30 + l) := funext fun j => e (30 + l) j (by omega) (by unfold gX; rw [if_neg (by omega), if_neg (by omega), if_neg (by omega), if_neg (by omega), if_neg (by omega), if_neg (by omega), if_pos (by omega)])
  have d1 : h' 77 = h 77 := d.row (by decide) (fun _ => rfl)
  have d2 : h' 76 = h 76 := d.row (by decide) (fun _ => rfl)
  have t : tokL h' l = tokL h l := by unfold tokL; rw [d1, d2]
  unfold RlL
  rw [e1, e2, d1, t]
  exact R
theorem RlD.fr {g h g' h' : Hp} (R : RlD g h) (e : sX 3 g g') (d : sM 3 h h') : RlD g' h' := by
  unfold RlD
  rw [e 26 4 (by decide) rfl, e 26 5 (by decide) rfl, e.row (k := 28) (by decide) (fun _ => rfl), d 57 29 (by decide) rfl, d 57 30 (by decide) rfl, d.row (k := 75) (by decide) (fun _ => rfl), d.row (k := 77) (by decide) (fun _ => rfl)]
  obtain ⟨a1, a2, a3, a4, a5, a6, a7, a8, a9⟩ := R
  exact ⟨a1, a2, a3, a4, a5, a6, a7, a8, fun l hl => (a9 l hl).fr (by omega) e d⟩
theorem RlE.fr {g h g' h' : Hp} (R : RlE g h) (e : sX 4 g g') (d : sM 4 h h') : RlE g' h' := by
  unfold RlE
  rw [e 40 2 (by decide) rfl, e.row (k := 41) (by decide) (fun _ => rfl), e.row (k := 42) (by decide) (fun _ => rfl), d 57 49 (by decide) rfl, d.row (k := 82) (by decide) (fun _ => rfl), d.row (k := 83) (by decide) (fun _ => rfl)]
  exact R
theorem RlF.fr {g h g' h' : Hp} (R : RlF g h) (e : sX 5 g g') (d : sM 5 h h') : RlF g' h' := by
  unfold RlF
  rw [e 43 2 (by decide) rfl, e 43 3 (by decide) rfl, e.row (k := 44) (by decide) (fun _ => rfl), e.row (k := 45) (by decide) (fun _ => rfl), d 57 52 (by decide) rfl, d 57 53 (by decide) rfl, d.row (k := 84) (by decide) (fun _ => rfl), d.row (k := 85) (by decide) (fun _ => rfl)]
  exact R
theorem gX_sh {s j : Nat} (h : s < 6) : gX (51 + s) j = 6 := by
  unfold gX
  rw [if_neg (by omega), if_neg (by omega), if_neg (by omega), if_neg (by omega), if_neg (by omega), if_neg (by omega), if_neg (by omega), if_neg (by omega), if_neg (by omega), if_neg (by omega)]
theorem RlG.fr {nb : Int} {g h g' h' : Hp} (R : RlG nb g h) (e : sX 6 g g') (d : sM 6 h h') : RlG nb g' h' := by
  have q : ∀ s j : Nat, s < 6 → g' (51 + s) j = g (51 + s) j := fun s j hs => e (51 + s) j (by omega) (gX_sh hs)
  unfold RlG RlS
  rw [e.row (k := 47) (by decide) (fun _ => rfl), e.row (k := 48) (by decide) (fun _ => rfl), e.row (k := 49) (by decide) (fun _ => rfl), d.row (k := 86) (by decide) (fun _ => rfl), d.row (k := 87) (by decide) (fun _ => rfl), d.row (k := 88) (by decide) (fun _ => rfl), d.row (k := 89) (by decide) (fun _ => rfl)]
  obtain ⟨a1, a2, a3, a4, a5⟩ := R
  exact ⟨a1, a2, a3, a4, fun s j hs hj => by rw [q s j hs]; exact a5 s j hs hj⟩
theorem RlG.up {nb nb' : Int} {g h : Hp} (R : RlG nb g h) (z : nb ≤ nb') : RlG nb' g h := by
  obtain ⟨a1, a2, a3, a4, a5⟩ := R
  refine ⟨a1, a2, a3, fun s hs => ?_, a5⟩
  have q := a4 s hs
  unfold RlS at q ⊢
  omega
def RLL (g h : Hp) : Prop := RlA g h ∧ RlB g h ∧ RlC (g 12 10) (g 6 3) g h ∧ RlD g h ∧ RlE g h ∧ RlF g h ∧ RlG (g 43 2) g h
theorem RLL.cong {g h g' h' : Hp} (R : RLL g h) (e : ∀ k : Nat, k < 57 → g' k = g k) (d : ∀ k : Nat, 57 ≤ k → h' k = h k) : RLL g' h' := by
  have sx : ∀ t, sX t g g' := fun t k j hk _ => congrFun (e k hk) j
  have sm : ∀ t, sM t h h' := fun t k j hk _ => congrFun (d k hk) j
  obtain ⟨r0, r1, r2, r3, r4, r5, r6⟩ := R
  refine ⟨r0.fr (sx 0) (sm 0), r1.fr (sx 1) (sm 1), ?_, r3.fr (sx 3) (sm 3), r4.fr (sx 4) (sm 4), r5.fr (sx 5) (sm 5), ?_⟩
  · rw [e 12 (by decide), e 6 (by decide)]
    exact r2.fr (sx 2) (sm 2)
  · rw [e 43 (by decide)]
    exact r6.fr (sx 6) (sm 6)
/-- only cells of these are touched -/
def tX (ts : List Nat) (g g' : Hp) : Prop := (∀ k : Nat, 57 ≤ k → g' k = g k) ∧ ∀ k j : Nat, k < 57 → ts.contains (gX k j) = false → g' k j = g k j
def tM (ts : List Nat) (h h' : Hp) : Prop := (∀ k : Nat, k < 57 → h' k = h k) ∧ ∀ k j : Nat, 57 ≤ k → ts.contains (gM k j) = false → h' k j = h k j
theorem tX.s {ts : List Nat} {g g' : Hp} (e : tX ts g g') {t : Nat} (ht : ts.contains t = false) : sX t g g' := fun k j hk z => e.2 k j hk (by rw [z]; exact ht)
theorem tM.s {ts : List Nat} {g g' : Hp} (e : tM ts g g') {t : Nat} (ht : ts.contains t = false) : sM t g g' := fun k j hk z => e.2 k j hk (by rw [z]; exact ht)
theorem tX.rf {ts : List Nat} {g : Hp} : tX ts g g := ⟨fun _ _ => rfl, fun _ _ _ _ => rfl⟩
theorem tM.rf {ts : List Nat} {g : Hp} : tM ts g g := ⟨fun _ _ => rfl, fun _ _ _ _ => rfl⟩
theorem tX.tr {ts : List Nat} {g g1 g2 : Hp} (a : tX ts g g1) (b : tX ts g1 g2) : tX ts g g2 := ⟨fun k z => (b.1 k z).trans (a.1 k z), fun k j z w => (b.2 k j z w).trans (a.2 k j z w)⟩
theorem tM.tr {ts : List Nat} {g g1 g2 : Hp} (a : tM ts g g1) (b : tM ts g1 g2) : tM ts g g2 := ⟨fun k z => (b.1 k z).trans (a.1 k z), fun k j z w => (b.2 k j z w).trans (a.2 k j z w)⟩
theorem tX.st {ts : List Nat} {g g1 : Hp} {k j : Nat} {v : Int} (a : tX ts g g1) (hk : k < 57) (z : ts.contains (gX k j) = true) : tX ts g (hset g1 k j v) := by
  refine ⟨fun a' h => ?_, fun a' b h w => ?_⟩
  · rw [hset_other a' (by omega)]
    exact a.1 a' h
  · have n : ¬ (a' = k ∧ b = j) := fun y => by
      rw [y.1, y.2, z] at w
      exact absurd w (by decide)
    rw [hset_app, if_neg n]
    exact a.2 a' b h w
theorem tM.st {ts : List Nat} {g g1 : Hp} {k j : Nat} {v : Int} (a : tM ts g g1) (hk : 57 ≤ k) (z : ts.contains (gM k j) = true) : tM ts g (hset g1 k j v) := by
  refine ⟨fun a' h => ?_, fun a' b h w => ?_⟩
  · rw [hset_other a' (by omega)]
    exact a.1 a' h
  · have n : ¬ (a' = k ∧ b = j) := fun y => by
      rw [y.1, y.2, z] at w
      exact absurd w (by decide)
    rw [hset_app, if_neg n]
    exact a.2 a' b h w
theorem tX.ex {ts ks : List Nat} {g g' : Hp} (e : EX ks g g') (h1 : ∀ k ∈ ks, k < 57 ∧ ∀ j : Nat, ts.contains (gX k j) = true) : tX ts g g' := by
  have c : ∀ k : Nat, ks.contains k = true → k ∈ ks := fun k z => by simpa using z
  refine ⟨fun k hk => e k ?_, fun k j hk w => ?_⟩
  · cases z : ks.contains k with
    | false => rfl
    | true => exact absurd (h1 k (c k z)).1 (by omega)
  · refine congrFun (e k ?_) j
    cases z : ks.contains k with
    | false => rfl
    | true =>
      rw [(h1 k (c k z)).2 j] at w
      exact absurd w (by decide)
theorem tM.ex {ts ks : List Nat} {g g' : Hp} (e : EX ks g g') (h1 : ∀ k ∈ ks, 57 ≤ k ∧ ∀ j : Nat, ts.contains (gM k j) = true) : tM ts g g' := by
  have c : ∀ k : Nat, ks.contains k = true → k ∈ ks := fun k z => by simpa using z
  refine ⟨fun k hk => e k ?_, fun k j hk w => ?_⟩
  · cases z : ks.contains k with
    | false => rfl
    | true => exact absurd (h1 k (c k z)).1 (by omega)
  · refine congrFun (e k ?_) j
    cases z : ks.contains k with
    | false => rfl
    | true =>
      rw [(h1 k (c k z)).2 j] at w
      exact absurd w (by decide)
theorem tM.ep {ts : List Nat} {P : Nat → Nat → Bool} {g g' : Hp} (e : EP P g g') (h1 : ∀ k j : Nat, P k j = true → 57 ≤ k ∧ ts.contains (gM k j) = true) : tM ts g g' := by
  refine ⟨fun k hk => funext fun j => e k j ?_, fun k j hk w => e k j ?_⟩
  · cases z : P k j with
    | false => rfl
    | true => exact absurd (h1 k j z).1 (by omega)
  · cases z : P k j with
    | false => rfl
    | true =>
      rw [(h1 k j z).2] at w
      exact absurd w (by decide)
theorem mscr_t {k j : Nat} (h : mscr k j = true) : 57 ≤ k ∧ gM k j = 9 := by
  simp only [mscr, Bool.or_eq_true, Bool.and_eq_true, beq_iff_eq, decide_eq_true_eq] at h
  refine ⟨by omega, ?_⟩
  unfold gM
  by_cases z : k = 57
  · rw [if_pos z, if_neg (by omega), if_neg (by omega), if_neg (by omega), if_neg (by omega), if_neg (by omega), if_neg (by omega)]
  · rw [if_neg z, if_neg (by omega), if_neg (by omega), if_neg (by omega)]
    by_cases y : k ≤ 81
    · rw [if_pos y]
    · rw [if_neg y, if_neg (by omega), if_neg (by omega), if_neg (by omega)]
theorem tM.scr {ts : List Nat} {g g' : Hp} (e : EP mscr g g') (h : ts.contains 9 = true) : tM ts g g' := tM.ep e (fun _ _ z => ⟨(mscr_t z).1, by rw [(mscr_t z).2]; exact h⟩)
/-- what must be shown of those that are touched -/
def RLp (ts : List Nat) (g h : Hp) : Prop := (ts.contains 0 = true → RlA g h) ∧ (ts.contains 1 = true → RlB g h) ∧ (ts.contains 2 = true → RlC (g 12 10) (g 6 3) g h) ∧ (ts.contains 3 = true → RlD g h) ∧ (ts.contains 4 = true → RlE g h) ∧ (ts.contains 5 = true → RlF g h) ∧ (ts.contains 6 = true → RlG (g 43 2) g h)
theorem RLL.step {ts : List Nat} {h x x2 : Hp} (R : RLL h h) (a : tX ts h x) (b : tM ts x x2) (q : RLp ts x x2) (h1 : ts.contains 1 = true → ts.contains 2 = true) (h5 : ts.contains 5 = true → ts.contains 6 = true) : RLL x2 x2 := by
  have key : RLL x x2 := by
    obtain ⟨r0, r1, r2, r3, r4, r5, r6⟩ := R
    have m : ∀ t, ts.contains t = false → sM t h x2 := fun t ht k j hk z => ((b.s ht) k j hk z).trans (congrFun (a.1 k hk) j)
    obtain ⟨q0, q1, q2, q3, q4, q5, q6⟩ := q
    refine ⟨?_, ?_, ?_, ?_, ?_, ?_, ?_⟩
    · cases z : ts.contains 0 with
      | true => exact q0 z
      | false => exact r0.fr (a.s z) (m 0 z)
    · cases z : ts.contains 1 with
      | true => exact q1 z
      | false => exact r1.fr (a.s z) (m 1 z)
    · cases z : ts.contains 2 with
      | true => exact q2 z
      | false =>
        cases y : ts.contains 1 with
        | true => rw [h1 y] at z; exact absurd z (by decide)
        | false =>
          rw [a.s y 12 10 (by decide) rfl, a.s y 6 3 (by decide) rfl]
          exact r2.fr (a.s z) (m 2 z)
    · cases z : ts.contains 3 with
      | true => exact q3 z
      | false => exact r3.fr (a.s z) (m 3 z)
    · cases z : ts.contains 4 with
      | true => exact q4 z
      | false => exact r4.fr (a.s z) (m 4 z)
    · cases z : ts.contains 5 with
      | true => exact q5 z
      | false => exact r5.fr (a.s z) (m 5 z)
    · cases z : ts.contains 6 with
      | true => exact q6 z
      | false =>
        cases y : ts.contains 5 with
        | true => rw [h5 y] at z; exact absurd z (by decide)
        | false =>
          rw [a.s y 43 2 (by decide) rfl]
          exact r6.fr (a.s z) (m 6 z)
  exact key.cong (fun k hk => b.1 k hk) (fun k _ => rfl)
theorem RLL.mix {ts : List Nat} {h x : Hp} (R : RLL h h) (a : tX ts h x) : RLL h x := R.cong (fun _ _ => rfl) (fun k hk => a.1 k hk)
/-- one call of both -/
def SIMC (K : KT) (y1 : MethodName) (c1 : ByteArray) (n1 : Nat) (y2 : MethodName) (c2 : ByteArray) (n2 : Nat) (rt : Option FieldType) (T : Int → AV) (d : Nat) (as1 as2 : List AV) (h : Hp) : Prop := ∃ (v : Int) (F1 : Hp → Prop), AMp K y1 c1 n1 rt d as1 h (some (T v)) F1 ∧ ∀ x : Hp, F1 x → HOK x → ∃ F2 : Hp → Prop, AMp K y2 c2 n2 rt d as2 x (some (T v)) F2 ∧ ∀ x2 : Hp, F2 x2 → RLL x2 x2
theorem SIMC.mk {K : KT} {y1 : MethodName} {c1 : ByteArray} {n1 : Nat} {y2 : MethodName} {c2 : ByteArray} {n2 : Nat} {rt : Option FieldType} {T : Int → AV} {d : Nat} {as1 as2 : List AV} {h : Hp} {v : Int} {F1 : Hp → Prop} (ts : List Nat) (R : RLL h h) (m1 : AMp K y1 c1 n1 rt d as1 h (some (T v)) F1) (t1 : ∀ x, F1 x → tX ts h x) (k : ∀ x, F1 x → HOK x → RLL h x → ∃ F2 : Hp → Prop, AMp K y2 c2 n2 rt d as2 x (some (T v)) F2 ∧ ∀ x2, F2 x2 → tM ts x x2 ∧ RLp ts x x2) (h1 : ts.contains 1 = true → ts.contains 2 = true := by decide) (h5 : ts.contains 5 = true → ts.contains 6 = true := by decide) : SIMC K y1 c1 n1 y2 c2 n2 rt T d as1 as2 h := by
  refine ⟨v, F1, m1, fun x f1 hx => ?_⟩
  obtain ⟨F2, m2, q⟩ := k x f1 hx (R.mix (t1 x f1))
  exact ⟨F2, m2, fun x2 f2 => R.step (t1 x f1) (q x2 f2).1 (q x2 f2).2 h1 h5⟩
/-- nothing of it is touched -/
theorem RLp.none (g h : Hp) : RLp [9] g h := ⟨fun z => absurd z (by decide), fun z => absurd z (by decide), fun z => absurd z (by decide), fun z => absurd z (by decide), fun z => absurd z (by decide), fun z => absurd z (by decide), fun z => absurd z (by decide)⟩
theorem SIMC.scr {K : KT} {y1 : MethodName} {c1 : ByteArray} {n1 : Nat} {y2 : MethodName} {c2 : ByteArray} {n2 : Nat} {rt : Option FieldType} {T : Int → AV} {d : Nat} {as1 as2 : List AV} {h : Hp} {v : Int} {F1 : Hp → Prop} (R : RLL h h) (m1 : AMp K y1 c1 n1 rt d as1 h (some (T v)) F1) (t1 : ∀ x, F1 x → tX [9] h x) (k : ∀ x, F1 x → HOK x → RLL h x → ∃ (v2 : Int) (F2 : Hp → Prop), AMp K y2 c2 n2 rt d as2 x (some (T v2)) F2 ∧ v2 = v ∧ ∀ x2, F2 x2 → tM [9] x x2) : SIMC K y1 c1 n1 y2 c2 n2 rt T d as1 as2 h :=
  SIMC.mk [9] R m1 t1 (fun x f hx r => by
    obtain ⟨v2, F2, m2, e, t2⟩ := k x f hx r
    rw [e] at m2
    exact ⟨F2, m2, fun x2 f2 => ⟨t2 x2 f2, RLp.none _ _⟩⟩)
theorem tX.eq {ts : List Nat} {h x : Hp} (e : h = x) : tX ts h x := by
  rw [← e]
  exact tX.rf
theorem tM.eq {ts : List Nat} {h x : Hp} (e : h = x) : tM ts h x := by
  rw [← e]
  exact tM.rf
theorem tX.s1 {h x : Hp} {k : Nat} (e : EX [k] h x) (h1 : k < 57 ∧ ∀ j : Nat, gX k j = 9) : tX [9] h x := tX.ex e (fun z hz => by
  rw [List.mem_singleton.mp hz]
  exact ⟨h1.1, fun j => by rw [h1.2 j]; rfl⟩)
