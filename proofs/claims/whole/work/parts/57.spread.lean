/-! the spread, and how many runs are needed -/
theorem pairsum {n : Int} {ow ye ord sh gv : Nat → Int} (hn : 0 ≤ n) (H : KO n ow ye ord) (q : Nat) (w : Nat → Nat → Int) : sumF (fun k => if (ow (ord k).toNat = ow (ord (k + 1)).toNat ∧ 0 ≤ sh (ord k).toNat ∧ 0 ≤ sh (ord (k + 1)).toNat) ∧ sortF sh gv (ord k).toNat (ord (k + 1)).toNat = q then w (ord k).toNat (ord (k + 1)).toNat else 0) (rngF (n - 1).toNat 0) = sumF (fun k => if sortM sh gv k (nextF n ow ye k) = q then w k (nextF n ow ye k).toNat else 0) (rngF n.toNat 0) := by
  by_cases hz : n = 0
  · subst hz
    rfl
  obtain ⟨m, hm⟩ : ∃ m : Nat, n.toNat = m + 1 := ⟨n.toNat - 1, by omega⟩
  have hm2 : (n - 1).toNat = m := by omega
  have key : ∀ (f : Nat → Int) (g : Nat → Int), (∀ k : Nat, k < m → f k = g (ord k).toNat) → g (ord m).toNat = 0 → sumF f (rngF m 0) = sumF g (rngF (m + 1) 0) := fun f g h1 h2 => by
    rw [rngF_zero, rngF_zero]
    have p := sumF_perm (f := g) H.2.1
    rw [hm] at p
    rw [← p]
    unfold ordL
    rw [sumF_map, List.range_succ, sumF_app, sumF_cons, sumF_nil, h2]
    rw [sumF_congr (fun k hk => h1 k (List.mem_range.mp hk))]
    omega
  rw [hm, hm2]
  have nxk : ∀ k : Nat, k ≤ m → nextF n ow ye (((ord k).toNat : Nat) : Int) = if (k : Int) + 1 < n ∧ ow (ord (k + 1)).toNat = ow (ord k).toNat then ord (k + 1) else -1 := fun k hk => by
    rw [ord_cast H (by omega)]
    exact nextF_at hn H (by omega)
  rw [key _ (fun k => if sortM sh gv k (nextF n ow ye k) = q then w k (nextF n ow ye k).toNat else 0) ?_ ?_]
  · intro k hk
    have o1 := H.1 (k + 1) (by omega)
    have nn := nxk k (by omega)
    by_cases c : ow (ord k).toNat = ow (ord (k + 1)).toNat
    · rw [if_pos ⟨by omega, c.symm⟩] at nn
      simp only [nn]
      unfold sortM
      simp only [Int.toNat_natCast]
      by_cases z : ord (k + 1) < 0 ∨ sh (ord k).toNat < 0 ∨ sh (ord (k + 1)).toNat < 0
      · rw [if_neg (fun y => by omega), if_pos z, if_neg (by omega)]
      · rw [if_neg z]
        by_cases u : sortF sh gv (ord k).toNat (ord (k + 1)).toNat = q
        · rw [if_pos ⟨⟨c, by omega, by omega⟩, u⟩, if_pos u]
        · rw [if_neg (fun y => u y.2), if_neg u]
    · rw [if_neg (fun y => c y.2.symm)] at nn
      simp only [nn]
      unfold sortM
      rw [if_pos (Or.inl (by decide)), if_neg (fun y => c y.1.1), if_neg (by omega)]
  · have nn := nxk m (Nat.le_refl _)
    rw [if_neg (by omega)] at nn
    simp only [nn]
    unfold sortM
    rw [if_pos (Or.inl (by decide)), if_neg (by omega)]
/-- the class's step, over rows -/
def spG (ow sh gv lv ord : Nat → Int) (mean : Int) (k : Nat) (s : Int) : Int := if (ow (ord k).toNat = ow (ord (k + 1)).toNat ∧ 0 ≤ sh (ord k).toNat ∧ 0 ≤ sh (ord (k + 1)).toNat) ∧ sortF sh gv (ord k).toNat (ord (k + 1)).toNat = 2 then s + (gainF lv (ord k).toNat (ord (k + 1)).toNat - mean) * (gainF lv (ord k).toNat (ord (k + 1)).toNat - mean) else s
theorem spread_eq {n : Int} {ow ye ord sh gv lv : Nat → Int} (hn : 0 ≤ n) (H : KO n ow ye ord) (mean : Int) : lp (spG ow sh gv lv ord mean) (n - 1).toNat 0 0 = lp (nsS (nextF n ow ye) sh gv lv mean) n.toNat 0 0 := by
  have a : spG ow sh gv lv ord mean = fun k s => s + (if (ow (ord k).toNat = ow (ord (k + 1)).toNat ∧ 0 ≤ sh (ord k).toNat ∧ 0 ≤ sh (ord (k + 1)).toNat) ∧ sortF sh gv (ord k).toNat (ord (k + 1)).toNat = 2 then (fun a b => (gainF lv a b - mean) * (gainF lv a b - mean)) (ord k).toNat (ord (k + 1)).toNat else 0) := by
    funext k s
    unfold spG
    split
    · rfl
    · omega
  have b : nsS (nextF n ow ye) sh gv lv mean = fun (k : Nat) (s : Int) => s + (if sortM sh gv k (nextF n ow ye k) = 2 then (fun a b : Nat => (gainF lv a b - mean) * (gainF lv a b - mean)) k (nextF n ow ye k).toNat else 0) := by
    funext k s
    unfold nsS
    split
    · rfl
    · omega
  rw [a, b, lp_sum, lp_sum]
  exact congrArg (fun z : Int => 0 + z) (pairsum hn H 2 (fun a b => (gainF lv a b - mean) * (gainF lv a b - mean)))
theorem ndF_eq {q sp : Int} (hq : 0 < q) (hs : 0 ≤ sp) : ∀ n k : Nat, (k : Int) ≤ sp / q + 1 → ndF q sp n k = if sp / q + 1 < (k : Int) + n then sp / q + 1 else -2
  | 0, k, h => by
    rw [if_neg (by omega)]
    rfl
  | n + 1, k, h => by
    unfold ndF
    have e : sp < q * (k : Int) ↔ sp / q < (k : Int) := by
      rw [Int.mul_comm]
      exact (Int.ediv_lt_iff_lt_mul hq).symm
    by_cases z : sp / q < (k : Int)
    · rw [if_pos (e.mpr z), if_pos (by omega)]
      omega
    · rw [if_neg (fun y => z (e.mp y)), ndF_eq hq hs n (k + 1) (by omega)]
      have e2 : ((k + 1 : Nat) : Int) + n = (k : Int) + ((n + 1 : Nat) : Int) := by omega
      rw [e2]
theorem needed_eq {q sp : Int} (hq : 0 < q) (hs : 0 ≤ sp) : ndF q sp 999 1 = if 999 < sp.tdiv q + 1 then -2 else sp.tdiv q + 1 := by
  have d : 0 ≤ sp / q := Int.ediv_nonneg hs (by omega)
  rw [Int.tdiv_eq_ediv_of_nonneg hs, ndF_eq hq hs 999 1 (by omega)]
  by_cases z : 999 < sp / q + 1
  · rw [if_pos z, if_neg (by omega)]
  · rw [if_neg z, if_pos (by omega)]
