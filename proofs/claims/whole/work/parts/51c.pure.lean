/-! both sides' answers are the same: belt, taken, acts, bytes -/
theorem btw_all {br ti : Nat → Int} {k : Nat} (h : 0 < br k - br (k - 1)) : btw br ti k (br k - br (k - 1)) = ti k := by
  unfold btw
  rw [Int.sub_self, Int.mul_zero, Int.zero_add]
  exact Int.mul_tdiv_cancel _ (by omega)
theorem btw_none {br ti : Nat → Int} {k : Nat} (h : 0 < br k - br (k - 1)) : btw br ti k 0 = ti (k - 1) := by
  unfold btw
  rw [Int.mul_zero, Int.add_zero, Int.sub_zero]
  exact Int.mul_tdiv_cancel _ (by omega)
theorem at_eq {n : Int} {br ti : Nat → Int} (H : PBelt n br ti) {x : Int} : ∀ (m k : Nat), (k : Int) + m = n → 1 ≤ k → br (k - 1) < x → atX br ti x m k (ti (k - 1)) = atM br ti x m k
  | 0, k, hk, h1, hx => rfl
  | m + 1, k, hk, h1, hx => by
    have r1 := H.2.2.2 (k - 1) (by omega)
    rw [show k - 1 + 1 = k by omega] at r1
    unfold atX atM
    by_cases c1 : x < br k
    · rw [if_pos (by omega), if_neg (by omega), if_pos (by omega)]
    · rw [if_neg (show ¬ x - br (k - 1) < br k - br (k - 1) by omega)]
      by_cases c2 : x = br k
      · rw [if_pos (by omega), if_neg (by omega), c2, btw_all (by omega)]
        cases m with
        | zero => rfl
        | succ m =>
          have r2 := H.2.2.2 k (by omega)
          unfold atM
          rw [show k + 1 - 1 = k from rfl, if_pos (by omega), Int.sub_self]
          have q := btw_none (br := br) (ti := ti) (k := k + 1) (by rw [show k + 1 - 1 = k from rfl]; omega)
          rw [q]
          rfl
      · rw [if_neg (by omega)]
        exact at_eq H m (k + 1) (by omega) (by omega) (by show br k < x; omega)
theorem belt_eq {n : Int} {br ti : Nat → Int} (H : PBelt n br ti) (hn : n ≠ 0) (x : Int) : beltX n br ti x = beltM n br ti x := by
  have h0 := H.1
  obtain ⟨m, hm⟩ : ∃ m : Nat, n.toNat = m + 1 := ⟨n.toNat - 1, by omega⟩
  unfold beltX beltM
  rw [hm]
  show (if x ≤ br 0 then (if (0 : Nat) = 0 then ti 0 else _) else atX br ti x m (0 + 1) (ti 0)) = if x ≤ br 0 then ti 0 else atM br ti x (m + 1 - 1) 1
  by_cases c : x ≤ br 0
  · rw [if_pos c, if_pos c, if_pos rfl]
  · rw [if_neg c, if_neg c]
    exact at_eq H m 1 (by omega) (by decide) (by show br 0 < x; omega)
theorem tk_all : ∀ a b : Fin 8, (if iuF 8 (a.val : Int) (b.val : Int) = (b.val : Int) then (a.val : Int) else -12) = utF (a.val : Int) (b.val : Int) 8 (a.val : Int) := by decide +kernel
theorem tk_eq {a b : Int} (a0 : 0 ≤ a) (a1 : a ≤ 7) (b0 : 0 ≤ b) (b1 : b ≤ 7) : (if iuF 8 a b = b then a else -12) = utF a b 8 a := by
  have q := tk_all ⟨a.toNat, by omega⟩ ⟨b.toNat, by omega⟩
  simp only [Int.toNat_of_nonneg a0, Int.toNat_of_nonneg b0] at q
  exact q
theorem act_eq {k act : Int} (k0 : 0 ≤ k) (k1 : k ≤ 7) (a0 : 0 ≤ act) (a1 : act ≤ 3) (n x : Int) : beF n k 30 k act x = (acF k act n x, acL k act) := by
  have hk : k = 0 ∨ k = 1 ∨ k = 2 ∨ k = 3 ∨ k = 4 ∨ k = 5 ∨ k = 6 ∨ k = 7 := by omega
  have ha : act = 0 ∨ act = 1 ∨ act = 2 ∨ act = 3 := by omega
  rcases hk with rfl | rfl | rfl | rfl | rfl | rfl | rfl | rfl <;> rcases ha with rfl | rfl | rfl | rfl <;> rfl
theorem lo255 : ∀ i : Fin 32, ¬ i.val < 8 → (255#32).getLsbD i.val = false := by decide
theorem b255_by (x : Int32) (s : Int32) (hs : s = 0 ∨ s = 8 ∨ s = 16 ∨ s = 24) : ((x.toUInt32 >>> (s.toUInt32 &&& Int32.toUInt32 31)).toInt32.toInt8.toInt32 &&& 255) = ((x >>> (s &&& 31)) &&& 255) := by
  apply Int32.toBitVec_inj.mp
  rcases hs with rfl | rfl | rfl | rfl <;> (apply BitVec.eq_of_getLsbD_eq; intro i hi; simp)
  · by_cases h8 : i < 8
    · rw [BitVec.getLsbD_signExtend, BitVec.getLsbD_signExtend]
      simp only [h8, hi, decide_true, Bool.true_and, if_true]
    · rw [lo255 ⟨i, hi⟩ h8]; simp
  · by_cases h8 : i < 8
    · rw [BitVec.getLsbD_signExtend, BitVec.getLsbD_signExtend, BitVec.getLsbD_ushiftRight, BitVec.getLsbD_sshiftRight]
      simp only [h8, hi, decide_true, Bool.true_and, if_true, if_pos (show 8 + i < 32 by omega), decide_eq_false (show ¬ 32 ≤ i by omega), Bool.not_false]
    · rw [lo255 ⟨i, hi⟩ h8]; simp
  · by_cases h8 : i < 8
    · rw [BitVec.getLsbD_signExtend, BitVec.getLsbD_signExtend, BitVec.getLsbD_ushiftRight, BitVec.getLsbD_sshiftRight]
      simp only [h8, hi, decide_true, Bool.true_and, if_true, if_pos (show 16 + i < 32 by omega), decide_eq_false (show ¬ 32 ≤ i by omega), Bool.not_false]
    · rw [lo255 ⟨i, hi⟩ h8]; simp
  · by_cases h8 : i < 8
    · rw [BitVec.getLsbD_signExtend, BitVec.getLsbD_signExtend, BitVec.getLsbD_ushiftRight, BitVec.getLsbD_sshiftRight]
      simp only [h8, hi, decide_true, Bool.true_and, if_true, if_pos (show 24 + i < 32 by omega), decide_eq_false (show ¬ 32 ≤ i by omega), Bool.not_false]
    · rw [lo255 ⟨i, hi⟩ h8]; simp
/-- the class's byte, as it is shown, is the reference's -/
theorem byXM (v : Int) {k : Nat} (hk : k < 4) : b255 (byX v k) = byM v k := by
  have e : Int32.ofInt (8 * (k : Int)) = 0 ∨ Int32.ofInt (8 * (k : Int)) = 8 ∨ Int32.ofInt (8 * (k : Int)) = 16 ∨ Int32.ofInt (8 * (k : Int)) = 24 := by
    have : k = 0 ∨ k = 1 ∨ k = 2 ∨ k = 3 := by omega
    rcases this with rfl | rfl | rfl | rfl
    · exact Or.inl rfl
    · exact Or.inr (Or.inl rfl)
    · exact Or.inr (Or.inr (Or.inl rfl))
    · exact Or.inr (Or.inr (Or.inr rfl))
  unfold b255 byX byM
  rw [Int32.ofInt_toInt, Int32.ofInt_toInt, Int32.ofInt_toInt]
  exact congrArg Int32.toInt (b255_by (Int32.ofInt v) _ e)
