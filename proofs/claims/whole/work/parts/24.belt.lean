/-! the belt: both -/
theorem tdiv_abs {a b B : Int} (hb : 0 < b) (h1 : -B ≤ a) (h2 : a ≤ B) : -B ≤ a.tdiv b ∧ a.tdiv b ≤ B := by
  rcases Int.le_total 0 a with h | h
  · have := tdiv_le h hb
    omega
  · have e : a.tdiv b = -((-a).tdiv b) := by rw [Int.neg_tdiv, Int.neg_neg]
    have := tdiv_le (a := -a) (by omega) hb
    omega
/-- the belt's points rise -/
def PBelt (n : Int) (br ti : Nat → Int) : Prop := 0 ≤ n ∧ n ≤ 6 ∧ (∀ k : Nat, (k : Int) < n → 0 ≤ br k ∧ br k ≤ 99 ∧ 0 ≤ ti k ∧ ti k ≤ 99) ∧ ∀ k : Nat, (k : Int) + 1 < n → br k < br (k + 1)
def btw (br ti : Nat → Int) (k : Nat) (part : Int) : Int := (ti (k - 1) * (br k - br (k - 1) - part) + ti k * part).tdiv (br k - br (k - 1))
theorem btw_in {n : Int} {br ti : Nat → Int} (H : PBelt n br ti) {k : Nat} (h1 : 1 ≤ k) (hk : (k : Int) < n) {part : Int} (p1 : -99 ≤ part) (p2 : part ≤ 99) : (1 ≤ br k - br (k - 1) ∧ br k - br (k - 1) ≤ 99) ∧ (-30000 ≤ ti (k - 1) * (br k - br (k - 1) - part) ∧ ti (k - 1) * (br k - br (k - 1) - part) ≤ 30000) ∧ (-10000 ≤ ti k * part ∧ ti k * part ≤ 10000) ∧ -40000 ≤ btw br ti k part ∧ btw br ti k part ≤ 40000 := by
  obtain ⟨-, -, H1, H2⟩ := H
  have a1 := H1 k hk
  have a2 := H1 (k - 1) (by omega)
  have a3 := H2 (k - 1) (by omega)
  rw [show k - 1 + 1 = k by omega] at a3
  have m1 := mul_in (a := br k - br (k - 1) - part) (b := ti (k - 1)) (A := 300) (B := 99) (by omega) (by omega) a2.2.2.1 a2.2.2.2 (by omega)
  have m2 := mul_in (a := part) (b := ti k) (A := 99) (B := 99) (by omega) (by omega) a1.2.2.1 a1.2.2.2 (by omega)
  rw [Int.mul_comm (br k - br (k - 1) - part)] at m1
  rw [Int.mul_comm part] at m2
  refine ⟨⟨by omega, by omega⟩, ⟨by omega, by omega⟩, ⟨by omega, by omega⟩, ?_⟩
  unfold btw
  exact tdiv_abs (by omega) (by omega) (by omega)
def atX (br ti : Nat → Int) (x : Int) : Nat → Nat → Int → Int
  | 0, _, b => b
  | n + 1, k, _ => if x ≤ br k then (if k = 0 then ti 0 else btw br ti k (x - br (k - 1))) else atX br ti x n (k + 1) (ti k)
def atM (br ti : Nat → Int) (x : Int) : Nat → Nat → Int
  | 0, k => ti (k - 1)
  | n + 1, k => if x - br (k - 1) < br k - br (k - 1) then btw br ti k (x - br (k - 1)) else atM br ti x n (k + 1)
theorem atX_in {n : Int} {br ti : Nat → Int} (H : PBelt n br ti) {x : Int} (x0 : 0 ≤ x) (x1 : x ≤ 99) : ∀ (m k : Nat) (b : Int), (k : Int) + m = n → 0 ≤ b → b ≤ 99 → -40000 ≤ atX br ti x m k b ∧ atX br ti x m k b ≤ 40000
  | 0, k, b, hk, b0, b1 => by unfold atX; omega
  | m + 1, k, b, hk, b0, b1 => by
    have a1 := H.2.2.1 k (by omega)
    have a0 := H.2.2.1 0 (by omega)
    have q := atX_in H x0 x1 m (k + 1) (ti k) (by omega) a1.2.2.1 a1.2.2.2
    unfold atX
    by_cases z : k = 0
    · subst z
      (repeat' split) <;> omega
    · have a2 := H.2.2.1 (k - 1) (by omega)
      have := (btw_in H (k := k) (by omega) (by omega) (part := x - br (k - 1)) (by omega) (by omega)).2.2.2
      (repeat' split) <;> omega
theorem atM_in {n : Int} {br ti : Nat → Int} (H : PBelt n br ti) {x : Int} (x0 : 0 ≤ x) (x1 : x ≤ 99) : ∀ (m k : Nat), (k : Int) + m = n → 1 ≤ k → -40000 ≤ atM br ti x m k ∧ atM br ti x m k ≤ 40000
  | 0, k, hk, h1 => by
    have a1 := H.2.2.1 (k - 1) (by omega)
    unfold atM; omega
  | m + 1, k, hk, h1 => by
    have a2 := H.2.2.1 (k - 1) (by omega)
    have q := atM_in H x0 x1 m (k + 1) (by omega) (by omega)
    have := (btw_in H (k := k) (by omega) (by omega) (part := x - br (k - 1)) (by omega) (by omega)).2.2.2
    unfold atM
    split <;> omega
def beltX (n : Int) (br ti : Nat → Int) (x : Int) : Int := atX br ti x n.toNat 0 0
def beltM (n : Int) (br ti : Nat → Int) (x : Int) : Int := if x ≤ br 0 then ti 0 else atM br ti x (n.toNat - 1) 1
set_option maxRecDepth 100000 in
set_option maxHeartbeats 4000000 in
theorem c_X1_between {K : KT} {dep : Nat} {h : Hp} {a b : Int} (hd : 1 ≤ dep) (hB : PBelt (h 40 2) (h 41) (h 42)) (q0 : 1 ≤ a ∧ a < h 40 2) (q1 : -99 ≤ b ∧ b ≤ 99) : AM K yX1_between cX1_between 4 (some .int) dep [vR 40, vI a, vI b] h (some (vI (btw (h 41) (h 42) a.toNat b))) (h) := by
  refine AM.of (own := RX1) (ls := [some (vR 40), some (vI a), some (vI b), none]) rfl (by decide +kernel) (by exact Nat.le_of_ble_eq_true rfl) rfl (fun hO => ?_)
  have e1 : (a - 1).toNat = a.toNat - 1 := by omega
  obtain ⟨b1, b2, b3, b4⟩ := btw_in hB (k := a.toNat) (by omega) (by omega) q1.1 q1.2
  have b5 := hB.2.1
  unfold btw at b4
  refine AW.aload_n (pc' := 1) dX1_between_0 rfl ?_
  refine AW.getR (pc' := 4) dX1_between_1 ly_40 fX1_9 rfl ?_
  refine AW.iload_n (pc' := 5) dX1_between_4 rfl ?_
  first | refine AW.ialdN (pc' := 6) dX1_between_5 ly_41 (by first | assumption | omega | (constructor <;> omega) | (simp only [Int.toNat_natCast]; omega) | exact b2_in _) (by decide) (fun r5 => ?_) | refine AW.iald (pc' := 6) dX1_between_5 ly_41 (by first | assumption | omega | (constructor <;> omega) | (simp only [Int.toNat_natCast]; omega) | exact b2_in _) (by first | assumption | omega | (constructor <;> omega) | (simp only [Int.toNat_natCast]; omega) | exact b2_in _) (by decide) (fun r5 => ?_)
  try simp only [e1] at r5 ⊢
  refine AW.aload_n (pc' := 7) dX1_between_6 rfl ?_
  refine AW.getR (pc' := 10) dX1_between_7 ly_40 fX1_9 rfl ?_
  refine AW.iload_n (pc' := 11) dX1_between_10 rfl ?_
  refine AW.iconst (pc' := 12) dX1_between_11 ?_
  refine AW.isub (pc' := 13) dX1_between_12 ?_
  first | refine AW.ialdN (pc' := 14) dX1_between_13 ly_41 (by first | assumption | omega | (constructor <;> omega) | (simp only [Int.toNat_natCast]; omega) | exact b2_in _) (by decide) (fun r13 => ?_) | refine AW.iald (pc' := 14) dX1_between_13 ly_41 (by first | assumption | omega | (constructor <;> omega) | (simp only [Int.toNat_natCast]; omega) | exact b2_in _) (by first | assumption | omega | (constructor <;> omega) | (simp only [Int.toNat_natCast]; omega) | exact b2_in _) (by decide) (fun r13 => ?_)
  try simp only [e1] at r13 ⊢
  refine AW.isub (pc' := 15) dX1_between_14 ?_
  refine AW.istore3n (pc' := 16) dX1_between_15 (by decide) rfl ?_
  refine AW.aload_n (pc' := 17) dX1_between_16 rfl ?_
  refine AW.getR (pc' := 20) dX1_between_17 ly_40 fX1_15 rfl ?_
  refine AW.iload_n (pc' := 21) dX1_between_20 rfl ?_
  refine AW.iconst (pc' := 22) dX1_between_21 ?_
  refine AW.isub (pc' := 23) dX1_between_22 ?_
  first | refine AW.ialdN (pc' := 24) dX1_between_23 ly_42 (by first | assumption | omega | (constructor <;> omega) | (simp only [Int.toNat_natCast]; omega) | exact b2_in _) (by decide) (fun r23 => ?_) | refine AW.iald (pc' := 24) dX1_between_23 ly_42 (by first | assumption | omega | (constructor <;> omega) | (simp only [Int.toNat_natCast]; omega) | exact b2_in _) (by first | assumption | omega | (constructor <;> omega) | (simp only [Int.toNat_natCast]; omega) | exact b2_in _) (by decide) (fun r23 => ?_)
  try simp only [e1] at r23 ⊢
  refine AW.iload_n (pc' := 25) dX1_between_24 rfl ?_
  refine AW.iload_n (pc' := 26) dX1_between_25 rfl ?_
  refine AW.isub (pc' := 27) dX1_between_26 ?_
  refine AW.imul (pc' := 28) dX1_between_27 ?_
  refine AW.aload_n (pc' := 29) dX1_between_28 rfl ?_
  refine AW.getR (pc' := 32) dX1_between_29 ly_40 fX1_15 rfl ?_
  refine AW.iload_n (pc' := 33) dX1_between_32 rfl ?_
  first | refine AW.ialdN (pc' := 34) dX1_between_33 ly_42 (by first | assumption | omega | (constructor <;> omega) | (simp only [Int.toNat_natCast]; omega) | exact b2_in _) (by decide) (fun r33 => ?_) | refine AW.iald (pc' := 34) dX1_between_33 ly_42 (by first | assumption | omega | (constructor <;> omega) | (simp only [Int.toNat_natCast]; omega) | exact b2_in _) (by first | assumption | omega | (constructor <;> omega) | (simp only [Int.toNat_natCast]; omega) | exact b2_in _) (by decide) (fun r33 => ?_)
  try simp only [e1] at r33 ⊢
  refine AW.iload_n (pc' := 35) dX1_between_34 rfl ?_
  refine AW.imul (pc' := 36) dX1_between_35 ?_
  refine AW.iadd (pc' := 37) dX1_between_36 ?_
  refine AW.i2l (pc' := 38) dX1_between_37 (by first | assumption | omega | (constructor <;> omega) | (simp only [Int.toNat_natCast]; omega) | exact b2_in _) ?_
  refine AW.iload_n (pc' := 39) dX1_between_38 rfl ?_
  refine AW.i2l (pc' := 40) dX1_between_39 (by first | assumption | omega | (constructor <;> omega) | (simp only [Int.toNat_natCast]; omega) | exact b2_in _) ?_
  refine AW.invN2 (pc' := 43) dX1_between_40 (by decide +kernel) mX11_cut (c_X11_cut (dep := dep - 1) (by first | assumption | omega | (constructor <;> omega) | (simp only [Int.toNat_natCast]; omega) | exact b2_in _) (by first | assumption | omega | (constructor <;> omega) | (simp only [Int.toNat_natCast]; omega) | exact b2_in _)) ?_
  try simp only [Int.toNat_natCast, e1]
  refine AW.iret dX1_between_43 ?_ ?_
  · refine congrArg (fun z : Int => (some (vI z) : Option AV)) ?_
    unfold btw
    rw [if_neg (by omega)]
  · rfl
set_option maxRecDepth 100000 in
set_option maxHeartbeats 4000000 in
theorem lp_X1_at {K : KT}  {dep : Nat} {h : Hp} {x : Int} (hB : PBelt (h 40 2) (h 41) (h 42)) (qx : 0 ≤ x ∧ x ≤ 99) (hd : 2 ≤ dep) : ∀ (n k : Nat) (b : Int), (k : Int) + n = h 40 2 → 0 ≤ b ∧ b ≤ 99 → AW K (XM K (some (vI (atX (h 41) (h 42) x n k b))) h) RX1 cX1_at 4 (some .int) dep 4 [some (vR 40), some (vI (x)), some (vI (b)), some (vI ((k : Int)))] [] h := by
  intro n
  induction n with
  | zero =>
    intro k b hk hb
    refine AW.iload_n (pc' := 5) dX1_at_4 rfl ?_
    refine AW.aload_n (pc' := 6) dX1_at_5 rfl ?_
    refine AW.getI (pc' := 9) dX1_at_6 ly_40 fX1_18 rfl (fun r6 => ?_)
    refine AW.icmp_ge (tgt := 64) (pc' := 12) dX1_at_9 (by first | assumption | omega | (constructor <;> omega) | (simp only [Int.toNat_natCast]; omega) | exact b2_in _) (by first | assumption | omega | (constructor <;> omega) | (simp only [Int.toNat_natCast]; omega) | exact b2_in _) (fun c9 => ?_) (fun c9 => ?_)
    · refine AW.iload_n (pc' := 65) dX1_at_64 rfl ?_
      refine AW.iret dX1_at_65 ?_ ?_
      all_goals first | rfl | exact congrArg (fun z : Int => (some (vI z) : Option AV)) (b2_t (by omega)) | exact congrArg (fun z : Int => (some (vI z) : Option AV)) (b2_f (by omega)) | ((repeat' split) <;> first | rfl | omega) | (refine congrArg (fun z : Int => (some (vI z) : Option AV)) ?_; (repeat' split) <;> first | rfl | omega)
    · omega
  | succ n ih =>
    intro k b hk hb
    have b5 := hB.2.1
    have a1 := hB.2.2.1 k (by omega)
    have e1 : ((k : Int) - 1).toNat = k - 1 := by omega
    have a2 : 1 ≤ k → 0 ≤ h 41 (k - 1) ∧ h 41 (k - 1) ≤ 99 := fun z => by have := hB.2.2.1 (k - 1) (by omega); omega
    refine AW.iload_n (pc' := 5) dX1_at_4 rfl ?_
    refine AW.aload_n (pc' := 6) dX1_at_5 rfl ?_
    refine AW.getI (pc' := 9) dX1_at_6 ly_40 fX1_18 rfl (fun r6 => ?_)
    try simp only [e1, Int.toNat_natCast] at r6 ⊢
    refine AW.icmp_ge (tgt := 64) (pc' := 12) dX1_at_9 (by first | assumption | omega | (constructor <;> omega) | (simp only [Int.toNat_natCast]; omega) | exact b2_in _) (by first | assumption | omega | (constructor <;> omega) | (simp only [Int.toNat_natCast]; omega) | exact b2_in _) (fun c9 => ?_) (fun c9 => ?_)
    · omega
    · refine AW.iload_n (pc' := 13) dX1_at_12 rfl ?_
      refine AW.aload_n (pc' := 14) dX1_at_13 rfl ?_
      refine AW.getR (pc' := 17) dX1_at_14 ly_40 fX1_9 rfl ?_
      refine AW.iload_n (pc' := 18) dX1_at_17 rfl ?_
      first | refine AW.ialdN (pc' := 19) dX1_at_18 ly_41 (by first | assumption | omega | (constructor <;> omega) | (simp only [Int.toNat_natCast]; omega) | exact b2_in _) (by decide) (fun r18 => ?_) | refine AW.iald (pc' := 19) dX1_at_18 ly_41 (by first | assumption | omega | (constructor <;> omega) | (simp only [Int.toNat_natCast]; omega) | exact b2_in _) (by first | assumption | omega | (constructor <;> omega) | (simp only [Int.toNat_natCast]; omega) | exact b2_in _) (by decide) (fun r18 => ?_)
      try simp only [e1, Int.toNat_natCast] at r18 ⊢
      refine AW.icmp_gt (tgt := 51) (pc' := 22) dX1_at_19 (by first | assumption | omega | (constructor <;> omega) | (simp only [Int.toNat_natCast]; omega) | exact b2_in _) (by first | assumption | omega | (constructor <;> omega) | (simp only [Int.toNat_natCast]; omega) | exact b2_in _) (fun c19 => ?_) (fun c19 => ?_)
      · refine AW.aload_n (pc' := 52) dX1_at_51 rfl ?_
        refine AW.getR (pc' := 55) dX1_at_52 ly_40 fX1_15 rfl ?_
        refine AW.iload_n (pc' := 56) dX1_at_55 rfl ?_
        first | refine AW.ialdN (pc' := 57) dX1_at_56 ly_42 (by first | assumption | omega | (constructor <;> omega) | (simp only [Int.toNat_natCast]; omega) | exact b2_in _) (by decide) (fun r56 => ?_) | refine AW.iald (pc' := 57) dX1_at_56 ly_42 (by first | assumption | omega | (constructor <;> omega) | (simp only [Int.toNat_natCast]; omega) | exact b2_in _) (by first | assumption | omega | (constructor <;> omega) | (simp only [Int.toNat_natCast]; omega) | exact b2_in _) (by decide) (fun r56 => ?_)
        try simp only [e1, Int.toNat_natCast] at r56 ⊢
        refine AW.istore2n (pc' := 58) dX1_at_57 (by decide) rfl ?_
        refine AW.iinc3 (pc' := 61) dX1_at_58 (by decide) rfl ?_
        refine AW.goto (tgt := 4) dX1_at_61 ?_
        have z : atX (h 41) (h 42) x (n + 1) k b = atX (h 41) (h 42) x n (k + 1) (h 42 k) := by
          conv => lhs; unfold atX
          rw [if_neg (by omega)]
        rw [z]
        exact AW.weak (ih (k + 1) (h 42 k) (by omega) ⟨a1.2.2.1, a1.2.2.2⟩) (by (repeat' first | exact LSub.e | refine LSub.n ?_ | refine LSub.c ?_ ?_) <;> first | rfl | exact congrArg Sum.inl (by first | rfl | omega | (push_cast; omega)) | exact congrArg (fun z : Int => (vL z : AV)) (by first | rfl | omega | (push_cast; omega)))
      · refine AW.iload_n (pc' := 23) dX1_at_22 rfl ?_
        refine AW.if_ne (tgt := 35) (pc' := 26) dX1_at_23 (by first | assumption | omega | (constructor <;> omega) | (simp only [Int.toNat_natCast]; omega) | exact b2_in _) (fun c23 => ?_) (fun c23 => ?_)
        · have c23 : 1 ≤ k := by omega
          refine AW.aload_n (pc' := 36) dX1_at_35 rfl ?_
          refine AW.iload_n (pc' := 37) dX1_at_36 rfl ?_
          refine AW.iload_n (pc' := 38) dX1_at_37 rfl ?_
          refine AW.aload_n (pc' := 39) dX1_at_38 rfl ?_
          refine AW.getR (pc' := 42) dX1_at_39 ly_40 fX1_9 rfl ?_
          refine AW.iload_n (pc' := 43) dX1_at_42 rfl ?_
          refine AW.iconst (pc' := 44) dX1_at_43 ?_
          refine AW.isub (pc' := 45) dX1_at_44 ?_
          first | refine AW.ialdN (pc' := 46) dX1_at_45 ly_41 (by first | assumption | omega | (constructor <;> omega) | (simp only [Int.toNat_natCast]; omega) | exact b2_in _) (by decide) (fun r45 => ?_) | refine AW.iald (pc' := 46) dX1_at_45 ly_41 (by first | assumption | omega | (constructor <;> omega) | (simp only [Int.toNat_natCast]; omega) | exact b2_in _) (by first | assumption | omega | (constructor <;> omega) | (simp only [Int.toNat_natCast]; omega) | exact b2_in _) (by decide) (fun r45 => ?_)
          try simp only [e1, Int.toNat_natCast] at r45 ⊢
          refine AW.isub (pc' := 47) dX1_at_46 ?_
          refine AW.invV2 (pc' := 50) dX1_at_47 mlX1_22 mX1_between ly_40 rfl (c_X1_between (dep := dep - 1) (by first | assumption | omega | (constructor <;> omega) | (simp only [Int.toNat_natCast]; omega) | exact b2_in _) (by first | assumption | omega | (constructor <;> omega) | (simp only [Int.toNat_natCast]; omega) | exact b2_in _) (by first | assumption | omega | (constructor <;> omega) | (simp only [Int.toNat_natCast]; omega) | exact b2_in _) (by first | assumption | omega | (constructor <;> omega) | (simp only [Int.toNat_natCast]; omega) | exact b2_in _)) ?_
          try simp only [Int.toNat_natCast, e1, Int.toNat_natCast]
          refine AW.iret dX1_at_50 ?_ ?_
          · refine congrArg (fun z : Int => (some (vI z) : Option AV)) ?_
            unfold atX
            rw [if_pos (by omega)]
            first | (rw [if_pos (by omega)]; done) | (rw [if_neg (by omega)])
          · rfl
        · refine AW.aload_n (pc' := 27) dX1_at_26 rfl ?_
          refine AW.getR (pc' := 30) dX1_at_27 ly_40 fX1_15 rfl ?_
          refine AW.iconst (pc' := 31) dX1_at_30 ?_
          first | refine AW.ialdN (pc' := 32) dX1_at_31 ly_42 (by first | assumption | omega | (constructor <;> omega) | (simp only [Int.toNat_natCast]; omega) | exact b2_in _) (by decide) (fun r31 => ?_) | refine AW.iald (pc' := 32) dX1_at_31 ly_42 (by first | assumption | omega | (constructor <;> omega) | (simp only [Int.toNat_natCast]; omega) | exact b2_in _) (by first | assumption | omega | (constructor <;> omega) | (simp only [Int.toNat_natCast]; omega) | exact b2_in _) (by decide) (fun r31 => ?_)
          try simp only [e1, Int.toNat_natCast] at r31 ⊢
          refine AW.goto (tgt := 50) dX1_at_32 ?_
          refine AW.iret dX1_at_50 ?_ ?_
          · refine congrArg (fun z : Int => (some (vI z) : Option AV)) ?_
            unfold atX
            rw [if_pos (by omega)]
            first | (rw [if_pos (by omega)]; done) | (rw [if_neg (by omega)])
          · rfl
set_option maxRecDepth 100000 in
set_option maxHeartbeats 4000000 in
theorem c_X1_at {K : KT} {dep : Nat} {h : Hp} {a : Int} (hd : 2 ≤ dep) (hB : PBelt (h 40 2) (h 41) (h 42)) (q0 : 0 ≤ a ∧ a ≤ 99) : AM K yX1_at cX1_at 4 (some .int) dep [vR 40, vI a] h (some (vI (beltX (h 40 2) (h 41) (h 42) a))) (h) := by
  refine AM.of (own := RX1) (ls := [some (vR 40), some (vI a), none, none]) rfl (by decide +kernel) (by exact Nat.le_of_ble_eq_true rfl) rfl (fun hO => ?_)
  refine AW.iconst (pc' := 1) dX1_at_0 ?_
  refine AW.istore2n (pc' := 2) dX1_at_1 (by decide) rfl ?_
  refine AW.iconst (pc' := 3) dX1_at_2 ?_
  refine AW.istore3n (pc' := 4) dX1_at_3 (by decide) rfl ?_
  exact AW.weak (lp_X1_at hB q0 (by omega) (h 40 2).toNat 0 0 (by have := hB.1; omega) (by omega)) (by (repeat' first | exact LSub.e | refine LSub.n ?_ | refine LSub.c ?_ ?_) <;> first | rfl | exact congrArg Sum.inl (by first | rfl | omega | omega) | exact congrArg (fun z : Int => (vL z : AV)) (by first | rfl | omega | omega))
set_option maxRecDepth 100000 in
set_option maxHeartbeats 4000000 in
theorem c_X11_belt {K : KT} {dep : Nat} {h : Hp} {a b : Int} (hd : 3 ≤ dep) (hB : PBelt (h 40 2) (h 41) (h 42)) (hR : PRun (h 1 4) (h 2) (h 3) (h 4) (h 5)) (q2 : inI a) (q3 : inI b) : AM K yX11_belt cX11_belt 4 (some .int) dep [vR 0, vI a, vI b] h (some (vI (if ¬ ((a = -1 ∨ 0 ≤ a ∧ a < h 1 4) ∧ 0 ≤ b ∧ b ≤ 99) then -1 else if h 40 2 = 0 then -5 else if a = -1 then beltX (h 40 2) (h 41) (h 42) b else (h 2 a.toNat * beltX (h 40 2) (h 41) (h 42) b).tdiv 1000))) (h) := by
  refine AM.of (own := RX11) (ls := [some (vR 0), some (vI a), some (vI b), none]) rfl (by decide +kernel) (by exact Nat.le_of_ble_eq_true rfl) rfl (fun hO => ?_)
  have g1 := hR.2.1
  have mm : 0 ≤ a → a < h 1 4 → 0 ≤ b → b ≤ 99 → (-40000 ≤ beltX (h 40 2) (h 41) (h 42) b ∧ beltX (h 40 2) (h 41) (h 42) b ≤ 40000) ∧ -399960000 ≤ h 2 a.toNat * beltX (h 40 2) (h 41) (h 42) b ∧ h 2 a.toNat * beltX (h 40 2) (h 41) (h 42) b ≤ 399960000 := fun z1 z2 z3 z4 => by
    have g := hR.2.2 a.toNat (by omega)
    have i : -40000 ≤ beltX (h 40 2) (h 41) (h 42) b ∧ beltX (h 40 2) (h 41) (h 42) b ≤ 40000 := atX_in hB z3 z4 (h 40 2).toNat 0 0 (by have := hB.1; omega) (by omega) (by omega)
    have := mul_in (a := beltX (h 40 2) (h 41) (h 42) b) (b := h 2 a.toNat) (A := 40000) (B := 9999) i.1 i.2 (by omega) (by omega) (by omega)
    rw [Int.mul_comm (beltX (h 40 2) (h 41) (h 42) b)] at this
    omega
  refine AW.iload_n (pc' := 1) dX11_belt_0 rfl ?_
  refine AW.iconst (pc' := 2) dX11_belt_1 ?_
  refine AW.icmp_eq (tgt := 16) (pc' := 5) dX11_belt_2 (by first | assumption | omega | (constructor <;> omega) | (simp only [Int.toNat_natCast]; omega) | exact b2_in _) (by first | assumption | omega | (constructor <;> omega) | (simp only [Int.toNat_natCast]; omega) | exact b2_in _) (fun c2 => ?_) (fun c2 => ?_)
  · refine AW.iload_n (pc' := 17) dX11_belt_16 rfl ?_
    refine AW.iconst (pc' := 18) dX11_belt_17 ?_
    refine AW.bipush (pc' := 20) dX11_belt_18 (by decide) ?_
    refine AW.invS3 (pc' := 23) dX11_belt_20 mlX11_89 mX11_within (c_X11_within (dep := dep - 1) (by first | assumption | omega | (constructor <;> omega) | (simp only [Int.toNat_natCast]; omega) | exact b2_in _) (by first | assumption | omega | (constructor <;> omega) | (simp only [Int.toNat_natCast]; omega) | exact b2_in _) (by first | assumption | omega | (constructor <;> omega) | (simp only [Int.toNat_natCast]; omega) | exact b2_in _)) ?_
    refine AW.ifb_ne (tgt := 28) (pc' := 26) dX11_belt_23 (fun c23 => ?_) (fun c23 => ?_)
    · refine AW.aload_n (pc' := 29) dX11_belt_28 rfl ?_
      refine AW.getR (pc' := 32) dX11_belt_29 ly_0 fX11_67 rfl ?_
      refine AW.getI (pc' := 35) dX11_belt_32 ly_40 fX11_267 rfl (fun r32 => ?_)
      refine AW.if_ne (tgt := 41) (pc' := 38) dX11_belt_35 (by first | assumption | omega | (constructor <;> omega) | (simp only [Int.toNat_natCast]; omega) | exact b2_in _) (fun c35 => ?_) (fun c35 => ?_)
      · refine AW.aload_n (pc' := 42) dX11_belt_41 rfl ?_
        refine AW.getR (pc' := 45) dX11_belt_42 ly_0 fX11_67 rfl ?_
        refine AW.iload_n (pc' := 46) dX11_belt_45 rfl ?_
        refine AW.invV1 (pc' := 49) dX11_belt_46 mlX11_268 mX1_at ly_40 rfl (c_X1_at (dep := dep - 1) (by first | assumption | omega | (constructor <;> omega) | (simp only [Int.toNat_natCast]; omega) | exact b2_in _) (by first | assumption | omega | (constructor <;> omega) | (simp only [Int.toNat_natCast]; omega) | exact b2_in _) (by first | assumption | omega | (constructor <;> omega) | (simp only [Int.toNat_natCast]; omega) | exact b2_in _)) ?_
        refine AW.istore3n (pc' := 50) dX11_belt_49 (by decide) rfl ?_
        refine AW.iload_n (pc' := 51) dX11_belt_50 rfl ?_
        refine AW.iconst (pc' := 52) dX11_belt_51 ?_
        refine AW.icmp_ne (tgt := 59) (pc' := 55) dX11_belt_52 (by first | assumption | omega | (constructor <;> omega) | (simp only [Int.toNat_natCast]; omega) | exact b2_in _) (by first | assumption | omega | (constructor <;> omega) | (simp only [Int.toNat_natCast]; omega) | exact b2_in _) (fun c52 => ?_) (fun c52 => ?_)
        · have m1 := mm (by omega) (by omega) (by omega) (by omega)
          refine AW.aload_n (pc' := 60) dX11_belt_59 rfl ?_
          refine AW.getR (pc' := 63) dX11_belt_60 ly_0 fX11_10 rfl ?_
          refine AW.getR (pc' := 66) dX11_belt_63 ly_1 fX11_271 rfl ?_
          refine AW.iload_n (pc' := 67) dX11_belt_66 rfl ?_
          first | refine AW.ialdN (pc' := 68) dX11_belt_67 ly_2 (by first | assumption | omega | (constructor <;> omega) | (simp only [Int.toNat_natCast]; omega) | exact b2_in _) (by decide) (fun r67 => ?_) | refine AW.iald (pc' := 68) dX11_belt_67 ly_2 (by first | assumption | omega | (constructor <;> omega) | (simp only [Int.toNat_natCast]; omega) | exact b2_in _) (by first | assumption | omega | (constructor <;> omega) | (simp only [Int.toNat_natCast]; omega) | exact b2_in _) (by decide) (fun r67 => ?_)
          refine AW.iload_n (pc' := 69) dX11_belt_68 rfl ?_
          refine AW.imul (pc' := 70) dX11_belt_69 ?_
          refine AW.sipush (pc' := 73) dX11_belt_70 (by decide) ?_
          refine AW.idiv (pc' := 74) dX11_belt_73 (by first | assumption | omega | (constructor <;> omega) | (simp only [Int.toNat_natCast]; omega) | exact b2_in _) (by first | assumption | omega | (constructor <;> omega) | (simp only [Int.toNat_natCast]; omega) | exact b2_in _) (by first | assumption | omega | (constructor <;> omega) | (simp only [Int.toNat_natCast]; omega) | exact b2_in _) ?_
          refine AW.iret dX11_belt_74 ?_ ?_
          all_goals first | rfl | exact congrArg (fun z : Int => (some (vI z) : Option AV)) (b2_t (by omega)) | exact congrArg (fun z : Int => (some (vI z) : Option AV)) (b2_f (by omega)) | ((repeat' split) <;> first | rfl | omega) | (refine congrArg (fun z : Int => (some (vI z) : Option AV)) ?_; (repeat' split) <;> first | rfl | omega)
        · refine AW.iload_n (pc' := 56) dX11_belt_55 rfl ?_
          refine AW.goto (tgt := 74) dX11_belt_56 ?_
          refine AW.iret dX11_belt_74 ?_ ?_
          all_goals first | rfl | exact congrArg (fun z : Int => (some (vI z) : Option AV)) (b2_t (by omega)) | exact congrArg (fun z : Int => (some (vI z) : Option AV)) (b2_f (by omega)) | ((repeat' split) <;> first | rfl | omega) | (refine congrArg (fun z : Int => (some (vI z) : Option AV)) ?_; (repeat' split) <;> first | rfl | omega)
      · refine AW.bipush (pc' := 40) dX11_belt_38 (by decide) ?_
        refine AW.iret dX11_belt_40 ?_ ?_
        all_goals first | rfl | exact congrArg (fun z : Int => (some (vI z) : Option AV)) (b2_t (by omega)) | exact congrArg (fun z : Int => (some (vI z) : Option AV)) (b2_f (by omega)) | ((repeat' split) <;> first | rfl | omega) | (refine congrArg (fun z : Int => (some (vI z) : Option AV)) ?_; (repeat' split) <;> first | rfl | omega)
    · refine AW.iconst (pc' := 27) dX11_belt_26 ?_
      refine AW.iret dX11_belt_27 ?_ ?_
      all_goals first | rfl | exact congrArg (fun z : Int => (some (vI z) : Option AV)) (b2_t (by omega)) | exact congrArg (fun z : Int => (some (vI z) : Option AV)) (b2_f (by omega)) | ((repeat' split) <;> first | rfl | omega) | (refine congrArg (fun z : Int => (some (vI z) : Option AV)) ?_; (repeat' split) <;> first | rfl | omega)
  · refine AW.aload_n (pc' := 6) dX11_belt_5 rfl ?_
    refine AW.getR (pc' := 9) dX11_belt_6 ly_0 fX11_10 rfl ?_
    refine AW.iload_n (pc' := 10) dX11_belt_9 rfl ?_
    refine AW.invV1 (pc' := 13) dX11_belt_10 mlX11_132 mX6_has ly_1 rfl (c_X6_has (dep := dep - 1) (by first | assumption | omega | (constructor <;> omega) | (simp only [Int.toNat_natCast]; omega) | exact b2_in _)) ?_
    refine AW.ifb_eq (tgt := 26) (pc' := 16) dX11_belt_13 (fun c13 => ?_) (fun c13 => ?_)
    · refine AW.iconst (pc' := 27) dX11_belt_26 ?_
      refine AW.iret dX11_belt_27 ?_ ?_
      all_goals first | rfl | exact congrArg (fun z : Int => (some (vI z) : Option AV)) (b2_t (by omega)) | exact congrArg (fun z : Int => (some (vI z) : Option AV)) (b2_f (by omega)) | ((repeat' split) <;> first | rfl | omega) | (refine congrArg (fun z : Int => (some (vI z) : Option AV)) ?_; (repeat' split) <;> first | rfl | omega)
    · refine AW.iload_n (pc' := 17) dX11_belt_16 rfl ?_
      refine AW.iconst (pc' := 18) dX11_belt_17 ?_
      refine AW.bipush (pc' := 20) dX11_belt_18 (by decide) ?_
      refine AW.invS3 (pc' := 23) dX11_belt_20 mlX11_89 mX11_within (c_X11_within (dep := dep - 1) (by first | assumption | omega | (constructor <;> omega) | (simp only [Int.toNat_natCast]; omega) | exact b2_in _) (by first | assumption | omega | (constructor <;> omega) | (simp only [Int.toNat_natCast]; omega) | exact b2_in _) (by first | assumption | omega | (constructor <;> omega) | (simp only [Int.toNat_natCast]; omega) | exact b2_in _)) ?_
      refine AW.ifb_ne (tgt := 28) (pc' := 26) dX11_belt_23 (fun c23 => ?_) (fun c23 => ?_)
      · refine AW.aload_n (pc' := 29) dX11_belt_28 rfl ?_
        refine AW.getR (pc' := 32) dX11_belt_29 ly_0 fX11_67 rfl ?_
        refine AW.getI (pc' := 35) dX11_belt_32 ly_40 fX11_267 rfl (fun r32 => ?_)
        refine AW.if_ne (tgt := 41) (pc' := 38) dX11_belt_35 (by first | assumption | omega | (constructor <;> omega) | (simp only [Int.toNat_natCast]; omega) | exact b2_in _) (fun c35 => ?_) (fun c35 => ?_)
        · refine AW.aload_n (pc' := 42) dX11_belt_41 rfl ?_
          refine AW.getR (pc' := 45) dX11_belt_42 ly_0 fX11_67 rfl ?_
          refine AW.iload_n (pc' := 46) dX11_belt_45 rfl ?_
          refine AW.invV1 (pc' := 49) dX11_belt_46 mlX11_268 mX1_at ly_40 rfl (c_X1_at (dep := dep - 1) (by first | assumption | omega | (constructor <;> omega) | (simp only [Int.toNat_natCast]; omega) | exact b2_in _) (by first | assumption | omega | (constructor <;> omega) | (simp only [Int.toNat_natCast]; omega) | exact b2_in _) (by first | assumption | omega | (constructor <;> omega) | (simp only [Int.toNat_natCast]; omega) | exact b2_in _)) ?_
          refine AW.istore3n (pc' := 50) dX11_belt_49 (by decide) rfl ?_
          refine AW.iload_n (pc' := 51) dX11_belt_50 rfl ?_
          refine AW.iconst (pc' := 52) dX11_belt_51 ?_
          refine AW.icmp_ne (tgt := 59) (pc' := 55) dX11_belt_52 (by first | assumption | omega | (constructor <;> omega) | (simp only [Int.toNat_natCast]; omega) | exact b2_in _) (by first | assumption | omega | (constructor <;> omega) | (simp only [Int.toNat_natCast]; omega) | exact b2_in _) (fun c52 => ?_) (fun c52 => ?_)
          · have m1 := mm (by omega) (by omega) (by omega) (by omega)
            refine AW.aload_n (pc' := 60) dX11_belt_59 rfl ?_
            refine AW.getR (pc' := 63) dX11_belt_60 ly_0 fX11_10 rfl ?_
            refine AW.getR (pc' := 66) dX11_belt_63 ly_1 fX11_271 rfl ?_
            refine AW.iload_n (pc' := 67) dX11_belt_66 rfl ?_
            first | refine AW.ialdN (pc' := 68) dX11_belt_67 ly_2 (by first | assumption | omega | (constructor <;> omega) | (simp only [Int.toNat_natCast]; omega) | exact b2_in _) (by decide) (fun r67 => ?_) | refine AW.iald (pc' := 68) dX11_belt_67 ly_2 (by first | assumption | omega | (constructor <;> omega) | (simp only [Int.toNat_natCast]; omega) | exact b2_in _) (by first | assumption | omega | (constructor <;> omega) | (simp only [Int.toNat_natCast]; omega) | exact b2_in _) (by decide) (fun r67 => ?_)
            refine AW.iload_n (pc' := 69) dX11_belt_68 rfl ?_
            refine AW.imul (pc' := 70) dX11_belt_69 ?_
            refine AW.sipush (pc' := 73) dX11_belt_70 (by decide) ?_
            refine AW.idiv (pc' := 74) dX11_belt_73 (by first | assumption | omega | (constructor <;> omega) | (simp only [Int.toNat_natCast]; omega) | exact b2_in _) (by first | assumption | omega | (constructor <;> omega) | (simp only [Int.toNat_natCast]; omega) | exact b2_in _) (by first | assumption | omega | (constructor <;> omega) | (simp only [Int.toNat_natCast]; omega) | exact b2_in _) ?_
            refine AW.iret dX11_belt_74 ?_ ?_
            all_goals first | rfl | exact congrArg (fun z : Int => (some (vI z) : Option AV)) (b2_t (by omega)) | exact congrArg (fun z : Int => (some (vI z) : Option AV)) (b2_f (by omega)) | ((repeat' split) <;> first | rfl | omega) | (refine congrArg (fun z : Int => (some (vI z) : Option AV)) ?_; (repeat' split) <;> first | rfl | omega)
          · refine AW.iload_n (pc' := 56) dX11_belt_55 rfl ?_
            refine AW.goto (tgt := 74) dX11_belt_56 ?_
            refine AW.iret dX11_belt_74 ?_ ?_
            all_goals first | rfl | exact congrArg (fun z : Int => (some (vI z) : Option AV)) (b2_t (by omega)) | exact congrArg (fun z : Int => (some (vI z) : Option AV)) (b2_f (by omega)) | ((repeat' split) <;> first | rfl | omega) | (refine congrArg (fun z : Int => (some (vI z) : Option AV)) ?_; (repeat' split) <;> first | rfl | omega)
        · refine AW.bipush (pc' := 40) dX11_belt_38 (by decide) ?_
          refine AW.iret dX11_belt_40 ?_ ?_
          all_goals first | rfl | exact congrArg (fun z : Int => (some (vI z) : Option AV)) (b2_t (by omega)) | exact congrArg (fun z : Int => (some (vI z) : Option AV)) (b2_f (by omega)) | ((repeat' split) <;> first | rfl | omega) | (refine congrArg (fun z : Int => (some (vI z) : Option AV)) ?_; (repeat' split) <;> first | rfl | omega)
      · refine AW.iconst (pc' := 27) dX11_belt_26 ?_
        refine AW.iret dX11_belt_27 ?_ ?_
        all_goals first | rfl | exact congrArg (fun z : Int => (some (vI z) : Option AV)) (b2_t (by omega)) | exact congrArg (fun z : Int => (some (vI z) : Option AV)) (b2_f (by omega)) | ((repeat' split) <;> first | rfl | omega) | (refine congrArg (fun z : Int => (some (vI z) : Option AV)) ?_; (repeat' split) <;> first | rfl | omega)
set_option maxRecDepth 100000 in
set_option maxHeartbeats 4000000 in
theorem lp_X12_beltAt {K : KT}  {dep : Nat} {h : Hp} {x : Int} (hB : PBelt (h 57 49) (h 82) (h 83)) (qx : 0 ≤ x ∧ x ≤ 99)  : ∀ (n k : Nat), (k : Int) + n = h 57 49 → 1 ≤ k → AW K (XM K (some (vI (atM (h 82) (h 83) x n k))) h) RX12 cX12_beltAt 5 (some .int) dep 19 [some (vR 57), some (vI (x)), some (vI ((k : Int))), none, none] [] h := by
  intro n
  induction n with
  | zero =>
    intro k hk h1
    have b5 := hB.2.1
    have e1 : (h 57 49 - 1).toNat = k - 1 := by omega
    refine AW.iload_n (pc' := 20) dX12_beltAt_19 rfl ?_
    refine AW.aload_n (pc' := 21) dX12_beltAt_20 rfl ?_
    refine AW.getI (pc' := 24) dX12_beltAt_21 ly_57 fX12_322 rfl (fun r21 => ?_)
    try simp only [e1, Int.toNat_natCast] at r21 ⊢
    refine AW.icmp_ge (tgt := 93) (pc' := 27) dX12_beltAt_24 (by first | assumption | omega | (constructor <;> omega) | (simp only [Int.toNat_natCast]; omega) | exact b2_in _) (by first | assumption | omega | (constructor <;> omega) | (simp only [Int.toNat_natCast]; omega) | exact b2_in _) (fun c24 => ?_) (fun c24 => ?_)
    · refine AW.aload_n (pc' := 94) dX12_beltAt_93 rfl ?_
      refine AW.getR (pc' := 97) dX12_beltAt_94 ly_57 fX12_89 rfl ?_
      refine AW.aload_n (pc' := 98) dX12_beltAt_97 rfl ?_
      refine AW.getI (pc' := 101) dX12_beltAt_98 ly_57 fX12_322 rfl (fun r98 => ?_)
      try simp only [e1, Int.toNat_natCast] at r98 ⊢
      refine AW.iconst (pc' := 102) dX12_beltAt_101 ?_
      refine AW.isub (pc' := 103) dX12_beltAt_102 ?_
      first | refine AW.ialdN (pc' := 104) dX12_beltAt_103 ly_83 (by first | assumption | omega | (constructor <;> omega) | (simp only [Int.toNat_natCast]; omega) | exact b2_in _) (by decide) (fun r103 => ?_) | refine AW.iald (pc' := 104) dX12_beltAt_103 ly_83 (by first | assumption | omega | (constructor <;> omega) | (simp only [Int.toNat_natCast]; omega) | exact b2_in _) (by first | assumption | omega | (constructor <;> omega) | (simp only [Int.toNat_natCast]; omega) | exact b2_in _) (by decide) (fun r103 => ?_)
      try simp only [e1, Int.toNat_natCast] at r103 ⊢
      refine AW.iret dX12_beltAt_104 ?_ ?_
      · rfl
      · rfl
    · omega
  | succ n ih =>
    intro k hk h1
    have b5 := hB.2.1
    have a1 := hB.2.2.1 k (by omega)
    have e1 : ((k : Int) - 1).toNat = k - 1 := by omega
    have a2 := hB.2.2.1 (k - 1) (by omega)
    obtain ⟨b1, b2, b3, b4⟩ := btw_in hB (k := k) (by omega) (by omega) (part := x - h 82 (k - 1)) (by omega) (by omega)
    refine AW.iload_n (pc' := 20) dX12_beltAt_19 rfl ?_
    refine AW.aload_n (pc' := 21) dX12_beltAt_20 rfl ?_
    refine AW.getI (pc' := 24) dX12_beltAt_21 ly_57 fX12_322 rfl (fun r21 => ?_)
    try simp only [e1, Int.toNat_natCast] at r21 ⊢
    refine AW.icmp_ge (tgt := 93) (pc' := 27) dX12_beltAt_24 (by first | assumption | omega | (constructor <;> omega) | (simp only [Int.toNat_natCast]; omega) | exact b2_in _) (by first | assumption | omega | (constructor <;> omega) | (simp only [Int.toNat_natCast]; omega) | exact b2_in _) (fun c24 => ?_) (fun c24 => ?_)
    · omega
    · refine AW.aload_n (pc' := 28) dX12_beltAt_27 rfl ?_
      refine AW.getR (pc' := 31) dX12_beltAt_28 ly_57 fX12_86 rfl ?_
      refine AW.iload_n (pc' := 32) dX12_beltAt_31 rfl ?_
      first | refine AW.ialdN (pc' := 33) dX12_beltAt_32 ly_82 (by first | assumption | omega | (constructor <;> omega) | (simp only [Int.toNat_natCast]; omega) | exact b2_in _) (by decide) (fun r32 => ?_) | refine AW.iald (pc' := 33) dX12_beltAt_32 ly_82 (by first | assumption | omega | (constructor <;> omega) | (simp only [Int.toNat_natCast]; omega) | exact b2_in _) (by first | assumption | omega | (constructor <;> omega) | (simp only [Int.toNat_natCast]; omega) | exact b2_in _) (by decide) (fun r32 => ?_)
      try simp only [e1, Int.toNat_natCast] at r32 ⊢
      refine AW.aload_n (pc' := 34) dX12_beltAt_33 rfl ?_
      refine AW.getR (pc' := 37) dX12_beltAt_34 ly_57 fX12_86 rfl ?_
      refine AW.iload_n (pc' := 38) dX12_beltAt_37 rfl ?_
      refine AW.iconst (pc' := 39) dX12_beltAt_38 ?_
      refine AW.isub (pc' := 40) dX12_beltAt_39 ?_
      first | refine AW.ialdN (pc' := 41) dX12_beltAt_40 ly_82 (by first | assumption | omega | (constructor <;> omega) | (simp only [Int.toNat_natCast]; omega) | exact b2_in _) (by decide) (fun r40 => ?_) | refine AW.iald (pc' := 41) dX12_beltAt_40 ly_82 (by first | assumption | omega | (constructor <;> omega) | (simp only [Int.toNat_natCast]; omega) | exact b2_in _) (by first | assumption | omega | (constructor <;> omega) | (simp only [Int.toNat_natCast]; omega) | exact b2_in _) (by decide) (fun r40 => ?_)
      try simp only [e1, Int.toNat_natCast] at r40 ⊢
      refine AW.isub (pc' := 42) dX12_beltAt_41 ?_
      refine AW.istore3n (pc' := 43) dX12_beltAt_42 (by decide) rfl ?_
      refine AW.iload_n (pc' := 44) dX12_beltAt_43 rfl ?_
      refine AW.aload_n (pc' := 45) dX12_beltAt_44 rfl ?_
      refine AW.getR (pc' := 48) dX12_beltAt_45 ly_57 fX12_86 rfl ?_
      refine AW.iload_n (pc' := 49) dX12_beltAt_48 rfl ?_
      refine AW.iconst (pc' := 50) dX12_beltAt_49 ?_
      refine AW.isub (pc' := 51) dX12_beltAt_50 ?_
      first | refine AW.ialdN (pc' := 52) dX12_beltAt_51 ly_82 (by first | assumption | omega | (constructor <;> omega) | (simp only [Int.toNat_natCast]; omega) | exact b2_in _) (by decide) (fun r51 => ?_) | refine AW.iald (pc' := 52) dX12_beltAt_51 ly_82 (by first | assumption | omega | (constructor <;> omega) | (simp only [Int.toNat_natCast]; omega) | exact b2_in _) (by first | assumption | omega | (constructor <;> omega) | (simp only [Int.toNat_natCast]; omega) | exact b2_in _) (by decide) (fun r51 => ?_)
      try simp only [e1, Int.toNat_natCast] at r51 ⊢
      refine AW.isub (pc' := 53) dX12_beltAt_52 ?_
      refine AW.istore4 (pc' := 55) dX12_beltAt_53 (by decide) rfl ?_
      refine AW.iload (pc' := 57) dX12_beltAt_55 rfl ?_
      refine AW.iload_n (pc' := 58) dX12_beltAt_57 rfl ?_
      refine AW.icmp_ge (tgt := 87) (pc' := 61) dX12_beltAt_58 (by first | assumption | omega | (constructor <;> omega) | (simp only [Int.toNat_natCast]; omega) | exact b2_in _) (by first | assumption | omega | (constructor <;> omega) | (simp only [Int.toNat_natCast]; omega) | exact b2_in _) (fun c58 => ?_) (fun c58 => ?_)
      · refine AW.iinc2 (pc' := 90) dX12_beltAt_87 (by decide) rfl ?_
        refine AW.goto (tgt := 19) dX12_beltAt_90 ?_
        have z : atM (h 82) (h 83) x (n + 1) k = atM (h 82) (h 83) x n (k + 1) := by
          conv => lhs; unfold atM
          rw [if_neg (by omega)]
        rw [z]
        exact AW.weak (ih (k + 1) (by omega) (by omega)) (by (repeat' first | exact LSub.e | refine LSub.n ?_ | refine LSub.c ?_ ?_) <;> first | rfl | exact congrArg Sum.inl (by first | rfl | omega | (push_cast; omega)) | exact congrArg (fun z : Int => (vL z : AV)) (by first | rfl | omega | (push_cast; omega)))
      · refine AW.aload_n (pc' := 62) dX12_beltAt_61 rfl ?_
        refine AW.getR (pc' := 65) dX12_beltAt_62 ly_57 fX12_89 rfl ?_
        refine AW.iload_n (pc' := 66) dX12_beltAt_65 rfl ?_
        refine AW.iconst (pc' := 67) dX12_beltAt_66 ?_
        refine AW.isub (pc' := 68) dX12_beltAt_67 ?_
        first | refine AW.ialdN (pc' := 69) dX12_beltAt_68 ly_83 (by first | assumption | omega | (constructor <;> omega) | (simp only [Int.toNat_natCast]; omega) | exact b2_in _) (by decide) (fun r68 => ?_) | refine AW.iald (pc' := 69) dX12_beltAt_68 ly_83 (by first | assumption | omega | (constructor <;> omega) | (simp only [Int.toNat_natCast]; omega) | exact b2_in _) (by first | assumption | omega | (constructor <;> omega) | (simp only [Int.toNat_natCast]; omega) | exact b2_in _) (by decide) (fun r68 => ?_)
        try simp only [e1, Int.toNat_natCast] at r68 ⊢
        refine AW.iload_n (pc' := 70) dX12_beltAt_69 rfl ?_
        refine AW.iload (pc' := 72) dX12_beltAt_70 rfl ?_
        refine AW.isub (pc' := 73) dX12_beltAt_72 ?_
        refine AW.imul (pc' := 74) dX12_beltAt_73 ?_
        refine AW.aload_n (pc' := 75) dX12_beltAt_74 rfl ?_
        refine AW.getR (pc' := 78) dX12_beltAt_75 ly_57 fX12_89 rfl ?_
        refine AW.iload_n (pc' := 79) dX12_beltAt_78 rfl ?_
        first | refine AW.ialdN (pc' := 80) dX12_beltAt_79 ly_83 (by first | assumption | omega | (constructor <;> omega) | (simp only [Int.toNat_natCast]; omega) | exact b2_in _) (by decide) (fun r79 => ?_) | refine AW.iald (pc' := 80) dX12_beltAt_79 ly_83 (by first | assumption | omega | (constructor <;> omega) | (simp only [Int.toNat_natCast]; omega) | exact b2_in _) (by first | assumption | omega | (constructor <;> omega) | (simp only [Int.toNat_natCast]; omega) | exact b2_in _) (by decide) (fun r79 => ?_)
        try simp only [e1, Int.toNat_natCast] at r79 ⊢
        refine AW.iload (pc' := 82) dX12_beltAt_80 rfl ?_
        refine AW.imul (pc' := 83) dX12_beltAt_82 ?_
        refine AW.iadd (pc' := 84) dX12_beltAt_83 ?_
        refine AW.iload_n (pc' := 85) dX12_beltAt_84 rfl ?_
        refine AW.idiv (pc' := 86) dX12_beltAt_85 (by first | assumption | omega | (constructor <;> omega) | (simp only [Int.toNat_natCast]; omega) | exact b2_in _) (by first | assumption | omega | (constructor <;> omega) | (simp only [Int.toNat_natCast]; omega) | exact b2_in _) (by first | assumption | omega | (constructor <;> omega) | (simp only [Int.toNat_natCast]; omega) | exact b2_in _) ?_
        refine AW.iret dX12_beltAt_86 ?_ ?_
        · refine congrArg (fun z : Int => (some (vI z) : Option AV)) ?_
          unfold atM
          rw [if_pos (by omega)]
          rfl
        · rfl
set_option maxRecDepth 100000 in
set_option maxHeartbeats 4000000 in
theorem c_X12_beltAt {K : KT} {dep : Nat} {h : Hp} {a : Int}  (hB : PBelt (h 57 49) (h 82) (h 83)) (q0 : 0 ≤ a ∧ a ≤ 99) (q1 : h 57 49 ≠ 0) : AM K yX12_beltAt cX12_beltAt 5 (some .int) dep [vR 57, vI a] h (some (vI (beltM (h 57 49) (h 82) (h 83) a))) (h) := by
  refine AM.of (own := RX12) (ls := [some (vR 57), some (vI a), none, none, none]) rfl (by decide +kernel) (by exact Nat.le_of_ble_eq_true rfl) rfl (fun hO => ?_)
  refine AW.iload_n (pc' := 1) dX12_beltAt_0 rfl ?_
  refine AW.aload_n (pc' := 2) dX12_beltAt_1 rfl ?_
  refine AW.getR (pc' := 5) dX12_beltAt_2 ly_57 fX12_86 rfl ?_
  refine AW.iconst (pc' := 6) dX12_beltAt_5 ?_
  first | refine AW.ialdN (pc' := 7) dX12_beltAt_6 ly_82 (by first | assumption | omega | (constructor <;> omega) | (simp only [Int.toNat_natCast]; omega) | exact b2_in _) (by decide) (fun r6 => ?_) | refine AW.iald (pc' := 7) dX12_beltAt_6 ly_82 (by first | assumption | omega | (constructor <;> omega) | (simp only [Int.toNat_natCast]; omega) | exact b2_in _) (by first | assumption | omega | (constructor <;> omega) | (simp only [Int.toNat_natCast]; omega) | exact b2_in _) (by decide) (fun r6 => ?_)
  refine AW.icmp_gt (tgt := 17) (pc' := 10) dX12_beltAt_7 (by first | assumption | omega | (constructor <;> omega) | (simp only [Int.toNat_natCast]; omega) | exact b2_in _) (by first | assumption | omega | (constructor <;> omega) | (simp only [Int.toNat_natCast]; omega) | exact b2_in _) (fun c7 => ?_) (fun c7 => ?_)
  · refine AW.iconst (pc' := 18) dX12_beltAt_17 ?_
    refine AW.istore2n (pc' := 19) dX12_beltAt_18 (by decide) rfl ?_
    have c8 : h 82 0 < a := c7
    unfold beltM
    rw [if_neg (by omega)]
    have p0 := hB.1
    exact AW.weak (lp_X12_beltAt hB q0 (dep := dep) ((h 57 49).toNat - 1) 1 (by omega) (by omega)) (by (repeat' first | exact LSub.e | refine LSub.n ?_ | refine LSub.c ?_ ?_) <;> first | rfl | exact congrArg Sum.inl (by first | rfl | omega | omega) | exact congrArg (fun z : Int => (vL z : AV)) (by first | rfl | omega | omega))
  · refine AW.aload_n (pc' := 11) dX12_beltAt_10 rfl ?_
    refine AW.getR (pc' := 14) dX12_beltAt_11 ly_57 fX12_89 rfl ?_
    refine AW.iconst (pc' := 15) dX12_beltAt_14 ?_
    first | refine AW.ialdN (pc' := 16) dX12_beltAt_15 ly_83 (by first | assumption | omega | (constructor <;> omega) | (simp only [Int.toNat_natCast]; omega) | exact b2_in _) (by decide) (fun r15 => ?_) | refine AW.iald (pc' := 16) dX12_beltAt_15 ly_83 (by first | assumption | omega | (constructor <;> omega) | (simp only [Int.toNat_natCast]; omega) | exact b2_in _) (by first | assumption | omega | (constructor <;> omega) | (simp only [Int.toNat_natCast]; omega) | exact b2_in _) (by decide) (fun r15 => ?_)
    refine AW.iret dX12_beltAt_16 ?_ ?_
    · refine congrArg (fun z : Int => (some (vI z) : Option AV)) ?_
      have c8 : ¬ (h 82 0 < a) := c7
      unfold beltM
      rw [if_pos (by omega)]
    · rfl
theorem beltM_in {n : Int} {br ti : Nat → Int} (H : PBelt n br ti) (hn : n ≠ 0) {x : Int} (x0 : 0 ≤ x) (x1 : x ≤ 99) : -40000 ≤ beltM n br ti x ∧ beltM n br ti x ≤ 40000 := by
  have p0 := H.1
  have a0 := H.2.2.1 0 (by omega)
  have := atM_in H x0 x1 (n.toNat - 1) 1 (by omega) (by omega)
  unfold beltM
  split <;> omega
set_option maxRecDepth 100000 in
set_option maxHeartbeats 4000000 in
theorem c_X12_belt {K : KT} {dep : Nat} {h : Hp} {a b : Int} (hd : 1 ≤ dep) (hB : PBelt (h 57 49) (h 82) (h 83)) (hR : PRun (h 57 13) (h 58) (h 59) (h 60) (h 61)) (q2 : inI a) (q3 : inI b) : AM K yX12_belt cX12_belt 3 (some .int) dep [vR 57, vI a, vI b] h (some (vI (if ¬ ((a = -1 ∨ 0 ≤ a ∧ a < h 57 13) ∧ 0 ≤ b ∧ b ≤ 99) then -1 else if h 57 49 = 0 then -5 else if a = -1 then beltM (h 57 49) (h 82) (h 83) b else (h 58 a.toNat * beltM (h 57 49) (h 82) (h 83) b).tdiv 1000))) (h) := by
  refine AM.of (own := RX12) (ls := [some (vR 57), some (vI a), some (vI b)]) rfl (by decide +kernel) (by exact Nat.le_of_ble_eq_true rfl) rfl (fun hO => ?_)
  have g1 := hR.2.1
  have mm : h 57 49 ≠ 0 → 0 ≤ a → a < h 57 13 → 0 ≤ b → b ≤ 99 → (-40000 ≤ beltM (h 57 49) (h 82) (h 83) b ∧ beltM (h 57 49) (h 82) (h 83) b ≤ 40000) ∧ -399960000 ≤ h 58 a.toNat * beltM (h 57 49) (h 82) (h 83) b ∧ h 58 a.toNat * beltM (h 57 49) (h 82) (h 83) b ≤ 399960000 := fun hp z1 z2 z3 z4 => by
    have g := hR.2.2 a.toNat (by omega)
    have i : -40000 ≤ beltM (h 57 49) (h 82) (h 83) b ∧ beltM (h 57 49) (h 82) (h 83) b ≤ 40000 := beltM_in hB hp z3 z4
    have := mul_in (a := beltM (h 57 49) (h 82) (h 83) b) (b := h 58 a.toNat) (A := 40000) (B := 9999) i.1 i.2 (by omega) (by omega) (by omega)
    rw [Int.mul_comm (beltM (h 57 49) (h 82) (h 83) b)] at this
    omega
  refine AW.iload_n (pc' := 1) dX12_belt_0 rfl ?_
  refine AW.iconst (pc' := 2) dX12_belt_1 ?_
  refine AW.icmp_eq (tgt := 13) (pc' := 5) dX12_belt_2 (by first | assumption | omega | (constructor <;> omega) | (simp only [Int.toNat_natCast]; omega) | exact b2_in _) (by first | assumption | omega | (constructor <;> omega) | (simp only [Int.toNat_natCast]; omega) | exact b2_in _) (fun c2 => ?_) (fun c2 => ?_)
  · refine AW.iload_n (pc' := 14) dX12_belt_13 rfl ?_
    refine AW.iconst (pc' := 15) dX12_belt_14 ?_
    refine AW.bipush (pc' := 17) dX12_belt_15 (by decide) ?_
    refine AW.invS3 (pc' := 20) dX12_belt_17 mlX12_117 mX12_isIn (c_X12_isIn (dep := dep - 1) (by first | assumption | omega | (constructor <;> omega) | (simp only [Int.toNat_natCast]; omega) | exact b2_in _) (by first | assumption | omega | (constructor <;> omega) | (simp only [Int.toNat_natCast]; omega) | exact b2_in _) (by first | assumption | omega | (constructor <;> omega) | (simp only [Int.toNat_natCast]; omega) | exact b2_in _)) ?_
    refine AW.ifb_ne (tgt := 25) (pc' := 23) dX12_belt_20 (fun c20 => ?_) (fun c20 => ?_)
    · refine AW.aload_n (pc' := 26) dX12_belt_25 rfl ?_
      refine AW.getI (pc' := 29) dX12_belt_26 ly_57 fX12_322 rfl (fun r26 => ?_)
      refine AW.if_ne (tgt := 35) (pc' := 32) dX12_belt_29 (by first | assumption | omega | (constructor <;> omega) | (simp only [Int.toNat_natCast]; omega) | exact b2_in _) (fun c29 => ?_) (fun c29 => ?_)
      · refine AW.iload_n (pc' := 36) dX12_belt_35 rfl ?_
        refine AW.iconst (pc' := 37) dX12_belt_36 ?_
        refine AW.icmp_ne (tgt := 48) (pc' := 40) dX12_belt_37 (by first | assumption | omega | (constructor <;> omega) | (simp only [Int.toNat_natCast]; omega) | exact b2_in _) (by first | assumption | omega | (constructor <;> omega) | (simp only [Int.toNat_natCast]; omega) | exact b2_in _) (fun c37 => ?_) (fun c37 => ?_)
        · have m1 := mm (by omega) (by omega) (by omega) (by omega) (by omega)
          refine AW.aload_n (pc' := 49) dX12_belt_48 rfl ?_
          refine AW.getR (pc' := 52) dX12_belt_49 ly_57 fX12_7 rfl ?_
          refine AW.iload_n (pc' := 53) dX12_belt_52 rfl ?_
          first | refine AW.ialdN (pc' := 54) dX12_belt_53 ly_58 (by first | assumption | omega | (constructor <;> omega) | (simp only [Int.toNat_natCast]; omega) | exact b2_in _) (by decide) (fun r53 => ?_) | refine AW.iald (pc' := 54) dX12_belt_53 ly_58 (by first | assumption | omega | (constructor <;> omega) | (simp only [Int.toNat_natCast]; omega) | exact b2_in _) (by first | assumption | omega | (constructor <;> omega) | (simp only [Int.toNat_natCast]; omega) | exact b2_in _) (by decide) (fun r53 => ?_)
          refine AW.aload_n (pc' := 55) dX12_belt_54 rfl ?_
          refine AW.iload_n (pc' := 56) dX12_belt_55 rfl ?_
          refine AW.invV1 (pc' := 59) dX12_belt_56 mlX12_325 mX12_beltAt ly_57 rfl (c_X12_beltAt (dep := dep - 1) (by first | assumption | omega | (constructor <;> omega) | (simp only [Int.toNat_natCast]; omega) | exact b2_in _) (by first | assumption | omega | (constructor <;> omega) | (simp only [Int.toNat_natCast]; omega) | exact b2_in _) (by first | assumption | omega | (constructor <;> omega) | (simp only [Int.toNat_natCast]; omega) | exact b2_in _)) ?_
          refine AW.imul (pc' := 60) dX12_belt_59 ?_
          refine AW.sipush (pc' := 63) dX12_belt_60 (by decide) ?_
          refine AW.idiv (pc' := 64) dX12_belt_63 (by first | assumption | omega | (constructor <;> omega) | (simp only [Int.toNat_natCast]; omega) | exact b2_in _) (by first | assumption | omega | (constructor <;> omega) | (simp only [Int.toNat_natCast]; omega) | exact b2_in _) (by first | assumption | omega | (constructor <;> omega) | (simp only [Int.toNat_natCast]; omega) | exact b2_in _) ?_
          refine AW.iret dX12_belt_64 ?_ ?_
          all_goals first | rfl | exact congrArg (fun z : Int => (some (vI z) : Option AV)) (b2_t (by omega)) | exact congrArg (fun z : Int => (some (vI z) : Option AV)) (b2_f (by omega)) | ((repeat' split) <;> first | rfl | omega) | (refine congrArg (fun z : Int => (some (vI z) : Option AV)) ?_; (repeat' split) <;> first | rfl | omega)
        · refine AW.aload_n (pc' := 41) dX12_belt_40 rfl ?_
          refine AW.iload_n (pc' := 42) dX12_belt_41 rfl ?_
          refine AW.invV1 (pc' := 45) dX12_belt_42 mlX12_325 mX12_beltAt ly_57 rfl (c_X12_beltAt (dep := dep - 1) (by first | assumption | omega | (constructor <;> omega) | (simp only [Int.toNat_natCast]; omega) | exact b2_in _) (by first | assumption | omega | (constructor <;> omega) | (simp only [Int.toNat_natCast]; omega) | exact b2_in _) (by first | assumption | omega | (constructor <;> omega) | (simp only [Int.toNat_natCast]; omega) | exact b2_in _)) ?_
          refine AW.goto (tgt := 64) dX12_belt_45 ?_
          refine AW.iret dX12_belt_64 ?_ ?_
          all_goals first | rfl | exact congrArg (fun z : Int => (some (vI z) : Option AV)) (b2_t (by omega)) | exact congrArg (fun z : Int => (some (vI z) : Option AV)) (b2_f (by omega)) | ((repeat' split) <;> first | rfl | omega) | (refine congrArg (fun z : Int => (some (vI z) : Option AV)) ?_; (repeat' split) <;> first | rfl | omega)
      · refine AW.bipush (pc' := 34) dX12_belt_32 (by decide) ?_
        refine AW.iret dX12_belt_34 ?_ ?_
        all_goals first | rfl | exact congrArg (fun z : Int => (some (vI z) : Option AV)) (b2_t (by omega)) | exact congrArg (fun z : Int => (some (vI z) : Option AV)) (b2_f (by omega)) | ((repeat' split) <;> first | rfl | omega) | (refine congrArg (fun z : Int => (some (vI z) : Option AV)) ?_; (repeat' split) <;> first | rfl | omega)
    · refine AW.iconst (pc' := 24) dX12_belt_23 ?_
      refine AW.iret dX12_belt_24 ?_ ?_
      all_goals first | rfl | exact congrArg (fun z : Int => (some (vI z) : Option AV)) (b2_t (by omega)) | exact congrArg (fun z : Int => (some (vI z) : Option AV)) (b2_f (by omega)) | ((repeat' split) <;> first | rfl | omega) | (refine congrArg (fun z : Int => (some (vI z) : Option AV)) ?_; (repeat' split) <;> first | rfl | omega)
  · refine AW.aload_n (pc' := 6) dX12_belt_5 rfl ?_
    refine AW.iload_n (pc' := 7) dX12_belt_6 rfl ?_
    refine AW.invV1 (pc' := 10) dX12_belt_7 mlX12_131 mX12_isRunner ly_57 rfl (c_X12_isRunner (dep := dep - 1) (by first | assumption | omega | (constructor <;> omega) | (simp only [Int.toNat_natCast]; omega) | exact b2_in _)) ?_
    refine AW.ifb_eq (tgt := 23) (pc' := 13) dX12_belt_10 (fun c10 => ?_) (fun c10 => ?_)
    · refine AW.iconst (pc' := 24) dX12_belt_23 ?_
      refine AW.iret dX12_belt_24 ?_ ?_
      all_goals first | rfl | exact congrArg (fun z : Int => (some (vI z) : Option AV)) (b2_t (by omega)) | exact congrArg (fun z : Int => (some (vI z) : Option AV)) (b2_f (by omega)) | ((repeat' split) <;> first | rfl | omega) | (refine congrArg (fun z : Int => (some (vI z) : Option AV)) ?_; (repeat' split) <;> first | rfl | omega)
    · refine AW.iload_n (pc' := 14) dX12_belt_13 rfl ?_
      refine AW.iconst (pc' := 15) dX12_belt_14 ?_
      refine AW.bipush (pc' := 17) dX12_belt_15 (by decide) ?_
      refine AW.invS3 (pc' := 20) dX12_belt_17 mlX12_117 mX12_isIn (c_X12_isIn (dep := dep - 1) (by first | assumption | omega | (constructor <;> omega) | (simp only [Int.toNat_natCast]; omega) | exact b2_in _) (by first | assumption | omega | (constructor <;> omega) | (simp only [Int.toNat_natCast]; omega) | exact b2_in _) (by first | assumption | omega | (constructor <;> omega) | (simp only [Int.toNat_natCast]; omega) | exact b2_in _)) ?_
      refine AW.ifb_ne (tgt := 25) (pc' := 23) dX12_belt_20 (fun c20 => ?_) (fun c20 => ?_)
      · refine AW.aload_n (pc' := 26) dX12_belt_25 rfl ?_
        refine AW.getI (pc' := 29) dX12_belt_26 ly_57 fX12_322 rfl (fun r26 => ?_)
        refine AW.if_ne (tgt := 35) (pc' := 32) dX12_belt_29 (by first | assumption | omega | (constructor <;> omega) | (simp only [Int.toNat_natCast]; omega) | exact b2_in _) (fun c29 => ?_) (fun c29 => ?_)
        · refine AW.iload_n (pc' := 36) dX12_belt_35 rfl ?_
          refine AW.iconst (pc' := 37) dX12_belt_36 ?_
          refine AW.icmp_ne (tgt := 48) (pc' := 40) dX12_belt_37 (by first | assumption | omega | (constructor <;> omega) | (simp only [Int.toNat_natCast]; omega) | exact b2_in _) (by first | assumption | omega | (constructor <;> omega) | (simp only [Int.toNat_natCast]; omega) | exact b2_in _) (fun c37 => ?_) (fun c37 => ?_)
          · have m1 := mm (by omega) (by omega) (by omega) (by omega) (by omega)
            refine AW.aload_n (pc' := 49) dX12_belt_48 rfl ?_
            refine AW.getR (pc' := 52) dX12_belt_49 ly_57 fX12_7 rfl ?_
            refine AW.iload_n (pc' := 53) dX12_belt_52 rfl ?_
            first | refine AW.ialdN (pc' := 54) dX12_belt_53 ly_58 (by first | assumption | omega | (constructor <;> omega) | (simp only [Int.toNat_natCast]; omega) | exact b2_in _) (by decide) (fun r53 => ?_) | refine AW.iald (pc' := 54) dX12_belt_53 ly_58 (by first | assumption | omega | (constructor <;> omega) | (simp only [Int.toNat_natCast]; omega) | exact b2_in _) (by first | assumption | omega | (constructor <;> omega) | (simp only [Int.toNat_natCast]; omega) | exact b2_in _) (by decide) (fun r53 => ?_)
            refine AW.aload_n (pc' := 55) dX12_belt_54 rfl ?_
            refine AW.iload_n (pc' := 56) dX12_belt_55 rfl ?_
            refine AW.invV1 (pc' := 59) dX12_belt_56 mlX12_325 mX12_beltAt ly_57 rfl (c_X12_beltAt (dep := dep - 1) (by first | assumption | omega | (constructor <;> omega) | (simp only [Int.toNat_natCast]; omega) | exact b2_in _) (by first | assumption | omega | (constructor <;> omega) | (simp only [Int.toNat_natCast]; omega) | exact b2_in _) (by first | assumption | omega | (constructor <;> omega) | (simp only [Int.toNat_natCast]; omega) | exact b2_in _)) ?_
            refine AW.imul (pc' := 60) dX12_belt_59 ?_
            refine AW.sipush (pc' := 63) dX12_belt_60 (by decide) ?_
            refine AW.idiv (pc' := 64) dX12_belt_63 (by first | assumption | omega | (constructor <;> omega) | (simp only [Int.toNat_natCast]; omega) | exact b2_in _) (by first | assumption | omega | (constructor <;> omega) | (simp only [Int.toNat_natCast]; omega) | exact b2_in _) (by first | assumption | omega | (constructor <;> omega) | (simp only [Int.toNat_natCast]; omega) | exact b2_in _) ?_
            refine AW.iret dX12_belt_64 ?_ ?_
            all_goals first | rfl | exact congrArg (fun z : Int => (some (vI z) : Option AV)) (b2_t (by omega)) | exact congrArg (fun z : Int => (some (vI z) : Option AV)) (b2_f (by omega)) | ((repeat' split) <;> first | rfl | omega) | (refine congrArg (fun z : Int => (some (vI z) : Option AV)) ?_; (repeat' split) <;> first | rfl | omega)
          · refine AW.aload_n (pc' := 41) dX12_belt_40 rfl ?_
            refine AW.iload_n (pc' := 42) dX12_belt_41 rfl ?_
            refine AW.invV1 (pc' := 45) dX12_belt_42 mlX12_325 mX12_beltAt ly_57 rfl (c_X12_beltAt (dep := dep - 1) (by first | assumption | omega | (constructor <;> omega) | (simp only [Int.toNat_natCast]; omega) | exact b2_in _) (by first | assumption | omega | (constructor <;> omega) | (simp only [Int.toNat_natCast]; omega) | exact b2_in _) (by first | assumption | omega | (constructor <;> omega) | (simp only [Int.toNat_natCast]; omega) | exact b2_in _)) ?_
            refine AW.goto (tgt := 64) dX12_belt_45 ?_
            refine AW.iret dX12_belt_64 ?_ ?_
            all_goals first | rfl | exact congrArg (fun z : Int => (some (vI z) : Option AV)) (b2_t (by omega)) | exact congrArg (fun z : Int => (some (vI z) : Option AV)) (b2_f (by omega)) | ((repeat' split) <;> first | rfl | omega) | (refine congrArg (fun z : Int => (some (vI z) : Option AV)) ?_; (repeat' split) <;> first | rfl | omega)
        · refine AW.bipush (pc' := 34) dX12_belt_32 (by decide) ?_
          refine AW.iret dX12_belt_34 ?_ ?_
          all_goals first | rfl | exact congrArg (fun z : Int => (some (vI z) : Option AV)) (b2_t (by omega)) | exact congrArg (fun z : Int => (some (vI z) : Option AV)) (b2_f (by omega)) | ((repeat' split) <;> first | rfl | omega) | (refine congrArg (fun z : Int => (some (vI z) : Option AV)) ?_; (repeat' split) <;> first | rfl | omega)
      · refine AW.iconst (pc' := 24) dX12_belt_23 ?_
        refine AW.iret dX12_belt_24 ?_ ?_
        all_goals first | rfl | exact congrArg (fun z : Int => (some (vI z) : Option AV)) (b2_t (by omega)) | exact congrArg (fun z : Int => (some (vI z) : Option AV)) (b2_f (by omega)) | ((repeat' split) <;> first | rfl | omega) | (refine congrArg (fun z : Int => (some (vI z) : Option AV)) ?_; (repeat' split) <;> first | rfl | omega)
