/-! the reference's sets: by their bits -/
theorem bit_all : ∀ a : Fin 64, ∀ b : Fin 64, ∀ k : Fin 12, bitX ((64 * a.val + b.val : Nat) : Int) (k.val : Int) = ((((64 * a.val + b.val) / 2 ^ k.val) % 2 : Nat) : Int) := by decide +kernel
theorem bit_of {q k : Nat} (hq : q < 4096) (hk : k < 12) : bitX (q : Int) (k : Int) = (((q / 2 ^ k) % 2 : Nat) : Int) := by
  have h := bit_all ⟨q / 64, by omega⟩ ⟨q % 64, by omega⟩ ⟨k, hk⟩
  simp only [Nat.div_add_mod] at h
  exact h
/-- a set by its bits: its sum, its count -/
def sbV : Nat → List Int → Int × Nat
  | _, [] => (0, 0)
  | q, v :: l => if q % 2 = 1 then ((sbV (q / 2) l).1 + v, (sbV (q / 2) l).2 + 1) else sbV (q / 2) l
theorem sbV_sb : ∀ (L : List Int) (q : Nat), Sb L (sbV q L).1 (sbV q L).2
  | [], q => Sb.nil
  | v :: l, q => by
    have h := sbV_sb l (q / 2)
    unfold sbV
    split
    · exact Sb.take h
    · exact Sb.out h
theorem sb_sbV {L : List Int} {s : Int} {c : Nat} (h : Sb L s c) : ∃ q : Nat, q < 2 ^ L.length ∧ sbV q L = (s, c) := by
  induction h using Sb.ind with
  | nil => exact ⟨0, by decide, rfl⟩
  | out h ih =>
    obtain ⟨q, h1, h2⟩ := ih
    refine ⟨2 * q, by rw [List.length_cons, Nat.pow_succ]; omega, ?_⟩
    unfold sbV
    rw [if_neg (by omega), show 2 * q / 2 = q by omega, h2]
  | take h ih =>
    obtain ⟨q, h1, h2⟩ := ih
    refine ⟨2 * q + 1, by rw [List.length_cons, Nat.pow_succ]; omega, ?_⟩
    unfold sbV
    rw [if_pos (by omega), show (2 * q + 1) / 2 = q by omega, h2]
theorem us_state (row : Nat → Int) {q : Nat} (hq : q < 4096) : ∀ (n k : Nat) (s : T3), k + n ≤ 12 → lp (usS row q) n k s = (s.1 + tsum n ((List.range n).map (fun i => row (k + i))) - (sbV (q / 2 ^ k) ((List.range n).map (fun i => row (k + i)))).1, s.2.1 + (sbV (q / 2 ^ k) ((List.range n).map (fun i => row (k + i)))).1, s.2.2 + ((sbV (q / 2 ^ k) ((List.range n).map (fun i => row (k + i)))).2 : Int))
  | 0, k, s, _ => by
    refine Prod.ext ?_ (Prod.ext ?_ ?_) <;> simp [lp, sbV, tsum]
  | n + 1, k, s, h => by
    have el : (List.range (n + 1)).map (fun i => row (k + i)) = row k :: (List.range n).map (fun i => row (k + 1 + i)) := by
      rw [List.range_succ_eq_map, List.map_cons, List.map_map]
      congr 1
      exact List.map_congr_left (fun i _ => by show row (k + (i + 1)) = row (k + 1 + i); rw [show k + 1 + i = k + (i + 1) by omega])
    rw [el]
    show lp (usS row q) n (k + 1) (usS row q k s) = _
    rw [us_state row hq n (k + 1) _ (by omega)]
    have eb := bit_of hq (show k < 12 by omega)
    have ed : q / 2 ^ k / 2 = q / 2 ^ (k + 1) := by rw [Nat.div_div_eq_div_mul, ← Nat.pow_succ]
    unfold usS
    rw [eb]
    by_cases z : q / 2 ^ k % 2 = 1
    · rw [if_pos (by rw [z]; rfl)]
      have e : sbV (q / 2 ^ k) (row k :: (List.range n).map (fun i => row (k + 1 + i))) = ((sbV (q / 2 ^ (k + 1)) ((List.range n).map (fun i => row (k + 1 + i)))).1 + row k, (sbV (q / 2 ^ (k + 1)) ((List.range n).map (fun i => row (k + 1 + i)))).2 + 1) := by
        rw [sbV, if_pos z, ed]
      rw [e]
      have et : tsum (n + 1) (row k :: (List.range n).map (fun i => row (k + 1 + i))) = row k + tsum n ((List.range n).map (fun i => row (k + 1 + i))) := rfl
      rw [et]
      refine Prod.ext ?_ (Prod.ext ?_ ?_) <;> simp only <;> omega
    · rw [if_neg (by omega)]
      have e : sbV (q / 2 ^ k) (row k :: (List.range n).map (fun i => row (k + 1 + i))) = sbV (q / 2 ^ (k + 1)) ((List.range n).map (fun i => row (k + 1 + i))) := by
        rw [sbV, if_neg z, ed]
      rw [e]
      have et : tsum (n + 1) (row k :: (List.range n).map (fun i => row (k + 1 + i))) = row k + tsum n ((List.range n).map (fun i => row (k + 1 + i))) := rfl
      rw [et]
      refine Prod.ext ?_ (Prod.ext ?_ ?_) <;> simp only <;> omega
