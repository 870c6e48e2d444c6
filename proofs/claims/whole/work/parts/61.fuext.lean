/-! the class's search is the extreme -/
theorem lp_snoc {S : Type} (f : Nat → S → S) : ∀ (n k : Nat) (s : S), lp f (n + 1) k s = f (k + n) (lp f n k s)
  | 0, k, s => rfl
  | n + 1, k, s => by
    show lp f (n + 1) (k + 1) (f k s) = _
    rw [lp_snoc f n (k + 1), show k + 1 + n = k + (n + 1) by omega]
    rfl
theorem tsum_succ : ∀ (l : List Int) (k : Nat), k < l.length → tsum (k + 1) l = tsum k l + l.getD k 0
  | [], k, h => absurd h (Nat.not_lt_zero _)
  | v :: l, 0, _ => by
    show v + tsum 0 l = 0 + v
    rw [show tsum 0 l = 0 by cases l <;> rfl]
    omega
  | v :: l, k + 1, h => by
    have q := tsum_succ l k (by rw [List.length_cons] at h; omega)
    show v + tsum (k + 1) l = v + tsum k l + (v :: l).getD (k + 1) 0
    rw [q]
    show _ = v + tsum k l + l.getD k 0
    omega
/-- the state behind k turns -/
theorem fu_state {g : Prop} {dg : Decidable g} {row : Nat → Int} {m : Nat} {L : List Int} {t0 : T4} {r0 : Int} (hL : L.length = m) (hg : ∀ k : Nat, k < m → row (ixG g m k) = L.getD k 0) : ∀ n : Nat, n ≤ m → lp (fuS g row m) n 0 (t0, r0) = ((t0.1 - tsum n L, t0.2.1 + tsum n L, t0.2.2.1 - n, t0.2.2.2 + n), lp (fun j r => fur g r (tgain (t0.1 - tsum (j + 1) L, t0.2.1 + tsum (j + 1) L, t0.2.2.1 - ((j + 1 : Nat) : Int), t0.2.2.2 + ((j + 1 : Nat) : Int)))) n 0 r0)
  | 0, _ => by
    have e : tsum 0 L = 0 := by cases L <;> rfl
    show (t0, r0) = _
    rw [e]
    refine Prod.ext (Prod.ext ?_ (Prod.ext ?_ (Prod.ext ?_ ?_))) rfl <;> simp only <;> omega
  | n + 1, h => by
    rw [lp_snoc, lp_snoc, fu_state hL hg n (by omega), Nat.zero_add]
    have e := tsum_succ L n (by omega)
    have et : trN (row (ixG g m n)) (t0.1 - tsum n L, t0.2.1 + tsum n L, t0.2.2.1 - (n : Int), t0.2.2.2 + (n : Int)) = (t0.1 - tsum (n + 1) L, t0.2.1 + tsum (n + 1) L, t0.2.2.1 - ((n + 1 : Nat) : Int), t0.2.2.2 + ((n + 1 : Nat) : Int)) := by
      rw [hg n (by omega), e]
      unfold trN
      refine Prod.ext ?_ (Prod.ext ?_ (Prod.ext ?_ ?_)) <;> simp only <;> omega
    show (trN (row (ixG g m n)) (t0.1 - tsum n L, t0.2.1 + tsum n L, t0.2.2.1 - (n : Int), t0.2.2.2 + (n : Int)), fur g _ (tgain (trN (row (ixG g m n)) (t0.1 - tsum n L, t0.2.1 + tsum n L, t0.2.2.1 - (n : Int), t0.2.2.2 + (n : Int))))) = _
    rw [et]
