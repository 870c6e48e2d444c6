/-! the text of names: where a sign stands in it -/
def tN (j : Nat) : Int := (tNames.getD j 0).toInt
theorem tN_of (j : Nat) : tNames.getD j 0 = Int32.ofInt (tN j) := (Int32.ofInt_toInt _).symm
def ixF (c : Int) : Nat → Nat → Int
  | 0, _ => -1
  | n + 1, k => if tN k = c then (k : Int) else ixF c n (k + 1)
theorem ixF_ne {c : Int} {k n : Nat} (h : tN k ≠ c) : ixF c (n + 1) k = ixF c n (k + 1) := by
  conv => lhs; unfold ixF
  rw [if_neg h]
/-- the sign's byte -/
def by8 (c : Int) : Int := (Int32.ofInt c).toInt8.toInt32.toInt
theorem ixF_in (c : Int) : ∀ n k : Nat, ixF c n k = -1 ∨ (k : Int) ≤ ixF c n k ∧ ixF c n k < k + n
  | 0, k => Or.inl rfl
  | n + 1, k => by
    unfold ixF
    split
    · omega
    · have := ixF_in c n (k + 1); omega
set_option maxRecDepth 100000 in
set_option maxHeartbeats 4000000 in
theorem c_J0_coder_7d493 {K : KT} {dep : Nat} {h : Hp}    : AM K yJ0_coder_7d493 cJ0_coder_7d493 1 (some .byte) dep [vR 1002] h (some (vI 0)) (h) := by
  refine AM.of (own := RJ0) (ls := [some (vR 1002)]) rfl (by decide +kernel) (by exact Nat.le_of_ble_eq_true rfl) rfl (fun hO => ?_)
  refine AW.compact (pc' := 3) dJ0_coder_7d493_0 lkJ0_38 ?_
  refine AW.if_eq (tgt := 13) (pc' := 6) dJ0_coder_7d493_3 (by first | assumption | omega | (constructor <;> omega) | (simp only [Int.toNat_natCast]; omega) | exact b2_in _) (fun c3 => ?_) (fun c3 => ?_)
  · refine AW.iconst (pc' := 14) dJ0_coder_7d493_13 ?_
    refine AW.bret dJ0_coder_7d493_14 ?_ ?_ (by first | assumption | omega | (constructor <;> omega) | (simp only [Int.toNat_natCast]; omega) | exact b2_in _)
    all_goals first | rfl | exact congrArg (fun z : Int => (some (vI z) : Option AV)) (b2_t (by omega)) | exact congrArg (fun z : Int => (some (vI z) : Option AV)) (b2_f (by omega)) | ((repeat' split) <;> first | rfl | omega) | (refine congrArg (fun z : Int => (some (vI z) : Option AV)) ?_; (repeat' split) <;> first | rfl | omega)
  · refine AW.aload_n (pc' := 7) dJ0_coder_7d493_6 rfl ?_
    refine AW.strC (pc' := 10) dJ0_coder_7d493_7 lkJ0_15 ?_
    refine AW.goto (tgt := 14) dJ0_coder_7d493_10 ?_
    refine AW.bret dJ0_coder_7d493_14 ?_ ?_ (by first | assumption | omega | (constructor <;> omega) | (simp only [Int.toNat_natCast]; omega) | exact b2_in _)
    all_goals first | rfl | exact congrArg (fun z : Int => (some (vI z) : Option AV)) (b2_t (by omega)) | exact congrArg (fun z : Int => (some (vI z) : Option AV)) (b2_f (by omega)) | ((repeat' split) <;> first | rfl | omega) | (refine congrArg (fun z : Int => (some (vI z) : Option AV)) ?_; (repeat' split) <;> first | rfl | omega)
set_option maxRecDepth 100000 in
set_option maxHeartbeats 4000000 in
theorem c_J0_isLatin1_aae02 {K : KT} {dep : Nat} {h : Hp}    : AM K yJ0_isLatin1_aae02 cJ0_isLatin1_aae02 1 (some .boolean) dep [vR 1002] h (some (vI (b2 True))) (h) := by
  refine AM.of (own := RJ0) (ls := [some (vR 1002)]) rfl (by decide +kernel) (by exact Nat.le_of_ble_eq_true rfl) rfl (fun hO => ?_)
  refine AW.compact (pc' := 3) dJ0_isLatin1_aae02_0 lkJ0_38 ?_
  refine AW.if_eq (tgt := 17) (pc' := 6) dJ0_isLatin1_aae02_3 (by first | assumption | omega | (constructor <;> omega) | (simp only [Int.toNat_natCast]; omega) | exact b2_in _) (fun c3 => ?_) (fun c3 => ?_)
  · refine AW.iconst (pc' := 18) dJ0_isLatin1_aae02_17 ?_
    refine AW.zret dJ0_isLatin1_aae02_18 ?_ ?_ (by first | exact Or.inl rfl | exact Or.inr rfl | exact b2_01 _ | assumption | (subst_vars; omega))
    all_goals first | rfl | omega | exact absurd rfl (by assumption) | (exfalso; simp at *)
  · refine AW.aload_n (pc' := 7) dJ0_isLatin1_aae02_6 rfl ?_
    refine AW.strC (pc' := 10) dJ0_isLatin1_aae02_7 lkJ0_15 ?_
    refine AW.if_ne (tgt := 17) (pc' := 13) dJ0_isLatin1_aae02_10 (by first | assumption | omega | (constructor <;> omega) | (simp only [Int.toNat_natCast]; omega) | exact b2_in _) (fun c10 => ?_) (fun c10 => ?_)
    · refine AW.iconst (pc' := 18) dJ0_isLatin1_aae02_17 ?_
      refine AW.zret dJ0_isLatin1_aae02_18 ?_ ?_ (by first | exact Or.inl rfl | exact Or.inr rfl | exact b2_01 _ | assumption | (subst_vars; omega))
      all_goals first | rfl | omega | exact absurd rfl (by assumption) | (exfalso; simp at *)
    · refine AW.iconst (pc' := 14) dJ0_isLatin1_aae02_13 ?_
      refine AW.goto (tgt := 18) dJ0_isLatin1_aae02_14 ?_
      refine AW.zret dJ0_isLatin1_aae02_18 ?_ ?_ (by first | exact Or.inl rfl | exact Or.inr rfl | exact b2_01 _ | assumption | (subst_vars; omega))
      all_goals first | rfl | omega | exact absurd rfl (by assumption) | (exfalso; simp at *)
set_option maxRecDepth 100000 in
set_option maxHeartbeats 4000000 in
theorem c_J1_canEncode_9a6ad {K : KT} {dep : Nat} {h : Hp} {a : Int}  (q0 : inI a) : AM K yJ1_canEncode_9a6ad cJ1_canEncode_9a6ad 1 (some .boolean) dep [vI a] h (some (vI (b2 (0 ≤ a ∧ a ≤ 255)))) (h) := by
  refine AM.of (own := RJ1) (ls := [some (vI a)]) rfl (by decide +kernel) (by exact Nat.le_of_ble_eq_true rfl) rfl (fun hO => ?_)
  refine AW.iload_n (pc' := 1) dJ1_canEncode_9a6ad_0 rfl ?_
  refine AW.if_lt (tgt := 15) (pc' := 4) dJ1_canEncode_9a6ad_1 (by first | assumption | omega | (constructor <;> omega) | (simp only [Int.toNat_natCast]; omega) | exact b2_in _) (fun c1 => ?_) (fun c1 => ?_)
  · refine AW.iconst (pc' := 16) dJ1_canEncode_9a6ad_15 ?_
    refine AW.zret dJ1_canEncode_9a6ad_16 ?_ ?_ (by first | exact Or.inl rfl | exact Or.inr rfl | exact b2_01 _ | assumption | (subst_vars; omega))
    all_goals first | rfl | exact congrArg (fun z : Int => (some (vI z) : Option AV)) (b2_t (by omega)) | exact congrArg (fun z : Int => (some (vI z) : Option AV)) (b2_f (by omega)) | ((repeat' split) <;> first | rfl | omega) | (refine congrArg (fun z : Int => (some (vI z) : Option AV)) ?_; (repeat' split) <;> first | rfl | omega)
  · refine AW.iload_n (pc' := 5) dJ1_canEncode_9a6ad_4 rfl ?_
    refine AW.sipush (pc' := 8) dJ1_canEncode_9a6ad_5 (by decide) ?_
    refine AW.icmp_gt (tgt := 15) (pc' := 11) dJ1_canEncode_9a6ad_8 (by first | assumption | omega | (constructor <;> omega) | (simp only [Int.toNat_natCast]; omega) | exact b2_in _) (by first | assumption | omega | (constructor <;> omega) | (simp only [Int.toNat_natCast]; omega) | exact b2_in _) (fun c8 => ?_) (fun c8 => ?_)
    · refine AW.iconst (pc' := 16) dJ1_canEncode_9a6ad_15 ?_
      refine AW.zret dJ1_canEncode_9a6ad_16 ?_ ?_ (by first | exact Or.inl rfl | exact Or.inr rfl | exact b2_01 _ | assumption | (subst_vars; omega))
      all_goals first | rfl | exact congrArg (fun z : Int => (some (vI z) : Option AV)) (b2_t (by omega)) | exact congrArg (fun z : Int => (some (vI z) : Option AV)) (b2_f (by omega)) | ((repeat' split) <;> first | rfl | omega) | (refine congrArg (fun z : Int => (some (vI z) : Option AV)) ?_; (repeat' split) <;> first | rfl | omega)
    · refine AW.iconst (pc' := 12) dJ1_canEncode_9a6ad_11 ?_
      refine AW.goto (tgt := 16) dJ1_canEncode_9a6ad_12 ?_
      refine AW.zret dJ1_canEncode_9a6ad_16 ?_ ?_ (by first | exact Or.inl rfl | exact Or.inr rfl | exact b2_01 _ | assumption | (subst_vars; omega))
      all_goals first | rfl | exact congrArg (fun z : Int => (some (vI z) : Option AV)) (b2_t (by omega)) | exact congrArg (fun z : Int => (some (vI z) : Option AV)) (b2_f (by omega)) | ((repeat' split) <;> first | rfl | omega) | (refine congrArg (fun z : Int => (some (vI z) : Option AV)) ?_; (repeat' split) <;> first | rfl | omega)
set_option maxRecDepth 100000 in
set_option maxHeartbeats 4000000 in
theorem lp_J1_indexOfChar {K : KT}  {dep : Nat} {h : Hp} {a c : Int} (hc : inI c)  : ∀ (n k : Nat), (k : Int) + n = 9 → AW K (XM K (some (vI (ixF c n k))) h) RJ1 cJ1_indexOfChar_4cfef 6 (some .int) dep 7 [some (vR 1003), some (vI (a)), some (vI (0)), some (vI (9)), some (vI (c)), some (vI ((k : Int)))] [] h := by
  intro n
  induction n with
  | zero =>
    intro k hk
    refine AW.iload (pc' := 9) dJ1_indexOfChar_4cfef_7 rfl ?_
    refine AW.iload_n (pc' := 10) dJ1_indexOfChar_4cfef_9 rfl ?_
    refine AW.icmp_ge (tgt := 31) (pc' := 13) dJ1_indexOfChar_4cfef_10 (by first | assumption | omega | (constructor <;> omega) | (simp only [Int.toNat_natCast]; omega) | exact b2_in _) (by first | assumption | omega | (constructor <;> omega) | (simp only [Int.toNat_natCast]; omega) | exact b2_in _) (fun c10 => ?_) (fun c10 => ?_)
    · refine AW.iconst (pc' := 32) dJ1_indexOfChar_4cfef_31 ?_
      refine AW.iret dJ1_indexOfChar_4cfef_32 ?_ ?_
      all_goals first | rfl | exact congrArg (fun z : Int => (some (vI z) : Option AV)) (b2_t (by omega)) | exact congrArg (fun z : Int => (some (vI z) : Option AV)) (b2_f (by omega)) | ((repeat' split) <;> first | rfl | omega) | (refine congrArg (fun z : Int => (some (vI z) : Option AV)) ?_; (repeat' split) <;> first | rfl | omega)
    · omega
  | succ n ih =>
    intro k hk
    have ti := in32 (tNames.getD k 0)
    refine AW.iload (pc' := 9) dJ1_indexOfChar_4cfef_7 rfl ?_
    refine AW.iload_n (pc' := 10) dJ1_indexOfChar_4cfef_9 rfl ?_
    refine AW.icmp_ge (tgt := 31) (pc' := 13) dJ1_indexOfChar_4cfef_10 (by first | assumption | omega | (constructor <;> omega) | (simp only [Int.toNat_natCast]; omega) | exact b2_in _) (by first | assumption | omega | (constructor <;> omega) | (simp only [Int.toNat_natCast]; omega) | exact b2_in _) (fun c10 => ?_) (fun c10 => ?_)
    · omega
    · refine AW.aload_n (pc' := 14) dJ1_indexOfChar_4cfef_13 rfl ?_
      refine AW.iload (pc' := 16) dJ1_indexOfChar_4cfef_14 rfl ?_
      refine AW.baldN (pc' := 17) (v := tN ((k : Nat) : Int).toNat) dJ1_indexOfChar_4cfef_16 (by first | assumption | omega | (constructor <;> omega) | (simp only [Int.toNat_natCast]; omega) | exact b2_in _) (by first | assumption | omega | (constructor <;> omega) | (simp only [Int.toNat_natCast]; omega) | exact b2_in _) (tN_of _) ?_
      simp only [Int.toNat_natCast]
      have ti2 : inI (tN k) := ti
      refine AW.iload (pc' := 19) dJ1_indexOfChar_4cfef_17 rfl ?_
      refine AW.icmp_ne (tgt := 25) (pc' := 22) dJ1_indexOfChar_4cfef_19 (by first | assumption | omega | (constructor <;> omega) | (simp only [Int.toNat_natCast]; omega) | exact b2_in _) (by first | assumption | omega | (constructor <;> omega) | (simp only [Int.toNat_natCast]; omega) | exact b2_in _) (fun c19 => ?_) (fun c19 => ?_)
      · refine AW.iinc5 (pc' := 28) dJ1_indexOfChar_4cfef_25 (by decide) rfl ?_
        refine AW.goto (tgt := 7) dJ1_indexOfChar_4cfef_28 ?_
        rw [ixF_ne c19]
        exact AW.weak (ih (k + 1) (by omega)) (by (repeat' first | exact LSub.e | refine LSub.n ?_ | refine LSub.c ?_ ?_) <;> first | rfl | exact congrArg Sum.inl (by first | rfl | omega | (push_cast; omega)))
      · refine AW.iload (pc' := 24) dJ1_indexOfChar_4cfef_22 rfl ?_
        refine AW.iret dJ1_indexOfChar_4cfef_24 ?_ ?_
        · refine congrArg (fun z : Int => (some (vI z) : Option AV)) ?_
          unfold ixF
          rw [if_pos c19]
        · rfl
set_option maxRecDepth 100000 in
set_option maxHeartbeats 4000000 in
theorem c_J1_indexOfChar_4cfef {K : KT} {dep : Nat} {h : Hp} {a : Int}   : AM K yJ1_indexOfChar_4cfef cJ1_indexOfChar_4cfef 6 (some .int) dep [vR 1003, vI a, vI 0, vI 9] h (some (vI (ixF (by8 a) 9 0))) (h) := by
  refine AM.of (own := RJ1) (ls := [some (vR 1003), some (vI a), some (vI 0), some (vI 9), none, none]) rfl (by decide +kernel) (by exact Nat.le_of_ble_eq_true rfl) rfl (fun hO => ?_)
  refine AW.iload_n (pc' := 1) dJ1_indexOfChar_4cfef_0 rfl ?_
  refine AW.i2b (pc' := 2) dJ1_indexOfChar_4cfef_1 ?_
  refine AW.istore4 (pc' := 4) dJ1_indexOfChar_4cfef_2 (by decide) rfl ?_
  refine AW.iload_n (pc' := 5) dJ1_indexOfChar_4cfef_4 rfl ?_
  refine AW.istore5 (pc' := 7) dJ1_indexOfChar_4cfef_5 (by decide) rfl ?_
  exact AW.weak (lp_J1_indexOfChar (c := by8 a) (in32 _) 9 0 (by decide)) (by (repeat' first | exact LSub.e | refine LSub.n ?_ | refine LSub.c ?_ ?_) <;> first | rfl | exact congrArg Sum.inl (by first | rfl | omega | omega))
set_option maxRecDepth 100000 in
set_option maxHeartbeats 4000000 in
theorem c_J0_length_8abf5 {K : KT} {dep : Nat} {h : Hp}  (hd : 1 ≤ dep)  : AM K yJ0_length_8abf5 cJ0_length_8abf5 1 (some .int) dep [vR 1002] h (some (vI 9)) (h) := by
  refine AM.of (own := RJ0) (ls := [some (vR 1002)]) rfl (by decide +kernel) (by exact Nat.le_of_ble_eq_true rfl) rfl (fun hO => ?_)
  refine AW.aload_n (pc' := 1) dJ0_length_8abf5_0 rfl ?_
  refine AW.strV (pc' := 4) dJ0_length_8abf5_1 lkJ0_9 ?_
  refine AW.lenN (pc' := 5) dJ0_length_8abf5_4 ?_
  refine AW.aload_n (pc' := 6) dJ0_length_8abf5_5 rfl ?_
  refine AW.invT0 (pc' := 9) dJ0_length_8abf5_6 mlJ0_335 mJ0_coder_7d493 rfl (c_J0_coder_7d493 (dep := dep - 1)) ?_
  refine AW.ishr (pc' := 10) dJ0_length_8abf5_9 ?_
  refine AW.iret dJ0_length_8abf5_10 ?_ ?_
  · refine congrArg (fun z : Int => (some (vI z) : Option AV)) ?_
    decide
  · rfl
set_option maxRecDepth 100000 in
set_option maxHeartbeats 4000000 in
theorem c_J1_indexOf_4cfef {K : KT} {dep : Nat} {h : Hp} {a : Int} (hd : 1 ≤ dep) (q0 : inI a) : AM K yJ1_indexOf_4cfef cJ1_indexOf_4cfef 4 (some .int) dep [vR 1003, vI a, vI 0, vI 9] h (some (vI (if 0 ≤ a ∧ a ≤ 255 then ixF (by8 a) 9 0 else -1))) (h) := by
  refine AM.of (own := RJ1) (ls := [some (vR 1003), some (vI a), some (vI 0), some (vI 9)]) rfl (by decide +kernel) (by exact Nat.le_of_ble_eq_true rfl) rfl (fun hO => ?_)
  refine AW.iload_n (pc' := 1) dJ1_indexOf_4cfef_0 rfl ?_
  refine AW.invS1 (pc' := 4) dJ1_indexOf_4cfef_1 mlJ1_88 mJ1_canEncode_9a6ad (c_J1_canEncode_9a6ad (dep := dep - 1) (by first | assumption | omega | (constructor <;> omega) | (simp only [Int.toNat_natCast]; omega) | exact b2_in _)) ?_
  refine AW.ifb_ne (tgt := 9) (pc' := 7) dJ1_indexOf_4cfef_4 (fun c4 => ?_) (fun c4 => ?_)
  · refine AW.iload_n (pc' := 10) dJ1_indexOf_4cfef_9 rfl ?_
    refine AW.iconst (pc' := 11) dJ1_indexOf_4cfef_10 ?_
    refine AW.mmax (pc' := 14) dJ1_indexOf_4cfef_11 mlJ1_92 (by first | assumption | omega | (constructor <;> omega) | (simp only [Int.toNat_natCast]; omega) | exact b2_in _) (by first | assumption | omega | (constructor <;> omega) | (simp only [Int.toNat_natCast]; omega) | exact b2_in _) ?_
    rw [show (if (0 : Int) < 0 then (0 : Int) else 0) = 0 from rfl]
    refine AW.istore2n (pc' := 15) dJ1_indexOf_4cfef_14 (by decide) rfl ?_
    refine AW.iload_n (pc' := 16) dJ1_indexOf_4cfef_15 rfl ?_
    refine AW.aload_n (pc' := 17) dJ1_indexOf_4cfef_16 rfl ?_
    refine AW.lenN (pc' := 18) dJ1_indexOf_4cfef_17 ?_
    refine AW.mmin (pc' := 21) dJ1_indexOf_4cfef_18 mlJ1_38 (by first | assumption | omega | (constructor <;> omega) | (simp only [Int.toNat_natCast]; omega) | exact b2_in _) (by first | assumption | omega | (constructor <;> omega) | (simp only [Int.toNat_natCast]; omega) | exact b2_in _) ?_
    rw [show (if (9 : Int) < 9 then (9 : Int) else 9) = 9 from rfl]
    refine AW.istore3n (pc' := 22) dJ1_indexOf_4cfef_21 (by decide) rfl ?_
    refine AW.iload_n (pc' := 23) dJ1_indexOf_4cfef_22 rfl ?_
    refine AW.iload_n (pc' := 24) dJ1_indexOf_4cfef_23 rfl ?_
    refine AW.icmp_lt (tgt := 29) (pc' := 27) dJ1_indexOf_4cfef_24 (by first | assumption | omega | (constructor <;> omega) | (simp only [Int.toNat_natCast]; omega) | exact b2_in _) (by first | assumption | omega | (constructor <;> omega) | (simp only [Int.toNat_natCast]; omega) | exact b2_in _) (fun c24 => ?_) (fun c24 => ?_)
    · refine AW.aload_n (pc' := 30) dJ1_indexOf_4cfef_29 rfl ?_
      refine AW.iload_n (pc' := 31) dJ1_indexOf_4cfef_30 rfl ?_
      refine AW.iload_n (pc' := 32) dJ1_indexOf_4cfef_31 rfl ?_
      refine AW.iload_n (pc' := 33) dJ1_indexOf_4cfef_32 rfl ?_
      refine AW.invS4 (pc' := 36) dJ1_indexOf_4cfef_33 mlJ1_95 mJ1_indexOfChar_4cfef (c_J1_indexOfChar_4cfef (dep := dep - 1)) ?_
      refine AW.iret dJ1_indexOf_4cfef_36 ?_ ?_
      · refine congrArg (fun z : Int => (some (vI z) : Option AV)) ?_
        (repeat' split) <;> first | rfl | omega | contradiction
      · rfl
    · omega
  · refine AW.iconst (pc' := 8) dJ1_indexOf_4cfef_7 ?_
    refine AW.iret dJ1_indexOf_4cfef_8 ?_ ?_
    · refine congrArg (fun z : Int => (some (vI z) : Option AV)) ?_
      (repeat' split) <;> first | rfl | omega | contradiction
    · rfl
set_option maxRecDepth 100000 in
set_option maxHeartbeats 4000000 in
theorem c_J0_indexOf_7cf53 {K : KT} {dep : Nat} {h : Hp} {a : Int} (hd : 2 ≤ dep) (q0 : inI a) : AM K yJ0_indexOf_7cf53 cJ0_indexOf_7cf53 3 (some .int) dep [vR 1002, vI a, vI 0] h (some (vI (if 0 ≤ a ∧ a ≤ 255 then ixF (by8 a) 9 0 else -1))) (h) := by
  refine AM.of (own := RJ0) (ls := [some (vR 1002), some (vI a), some (vI 0)]) rfl (by decide +kernel) (by exact Nat.le_of_ble_eq_true rfl) rfl (fun hO => ?_)
  refine AW.aload_n (pc' := 1) dJ0_indexOf_7cf53_0 rfl ?_
  refine AW.invT0 (pc' := 4) dJ0_indexOf_7cf53_1 mlJ0_492 mJ0_isLatin1_aae02 rfl (c_J0_isLatin1_aae02 (dep := dep - 1)) ?_
  refine AW.ifb_eq (tgt := 23) (pc' := 7) dJ0_indexOf_7cf53_4 (fun c4 => ?_) (fun c4 => ?_)
  · exact absurd trivial c4
  · refine AW.aload_n (pc' := 8) dJ0_indexOf_7cf53_7 rfl ?_
    refine AW.strV (pc' := 11) dJ0_indexOf_7cf53_8 lkJ0_9 ?_
    refine AW.iload_n (pc' := 12) dJ0_indexOf_7cf53_11 rfl ?_
    refine AW.iload_n (pc' := 13) dJ0_indexOf_7cf53_12 rfl ?_
    refine AW.aload_n (pc' := 14) dJ0_indexOf_7cf53_13 rfl ?_
    refine AW.invT0 (pc' := 17) dJ0_indexOf_7cf53_14 mlJ0_505 mJ0_length_8abf5 rfl (c_J0_length_8abf5 (dep := dep - 1) (by first | assumption | omega | (constructor <;> omega) | (simp only [Int.toNat_natCast]; omega) | exact b2_in _)) ?_
    refine AW.invS4 (pc' := 20) dJ0_indexOf_7cf53_17 mlJ0_637 mJ1_indexOf_4cfef (c_J1_indexOf_4cfef (dep := dep - 1) (by first | assumption | omega | (constructor <;> omega) | (simp only [Int.toNat_natCast]; omega) | exact b2_in _) (by first | assumption | omega | (constructor <;> omega) | (simp only [Int.toNat_natCast]; omega) | exact b2_in _)) ?_
    refine AW.goto (tgt := 36) dJ0_indexOf_7cf53_20 ?_
    refine AW.iret dJ0_indexOf_7cf53_36 ?_ ?_
    all_goals first | rfl | exact congrArg (fun z : Int => (some (vI z) : Option AV)) (b2_t (by omega)) | exact congrArg (fun z : Int => (some (vI z) : Option AV)) (b2_f (by omega)) | ((repeat' split) <;> first | rfl | omega) | (refine congrArg (fun z : Int => (some (vI z) : Option AV)) ?_; (repeat' split) <;> first | rfl | omega)
set_option maxRecDepth 100000 in
set_option maxHeartbeats 4000000 in
theorem c_J0_indexOf_0f7a4 {K : KT} {dep : Nat} {h : Hp} {a : Int} (hd : 3 ≤ dep) (q0 : inI a) : AM K yJ0_indexOf_0f7a4 cJ0_indexOf_0f7a4 2 (some .int) dep [vR 1002, vI a] h (some (vI (if 0 ≤ a ∧ a ≤ 255 then ixF (by8 a) 9 0 else -1))) (h) := by
  refine AM.of (own := RJ0) (ls := [some (vR 1002), some (vI a)]) rfl (by decide +kernel) (by exact Nat.le_of_ble_eq_true rfl) rfl (fun hO => ?_)
  refine AW.aload_n (pc' := 1) dJ0_indexOf_0f7a4_0 rfl ?_
  refine AW.iload_n (pc' := 2) dJ0_indexOf_0f7a4_1 rfl ?_
  refine AW.iconst (pc' := 3) dJ0_indexOf_0f7a4_2 ?_
  refine AW.invT2 (pc' := 6) dJ0_indexOf_0f7a4_3 mlJ0_633 mJ0_indexOf_7cf53 rfl (c_J0_indexOf_7cf53 (dep := dep - 1) (by first | assumption | omega | (constructor <;> omega) | (simp only [Int.toNat_natCast]; omega) | exact b2_in _) (by first | assumption | omega | (constructor <;> omega) | (simp only [Int.toNat_natCast]; omega) | exact b2_in _)) ?_
  refine AW.iret dJ0_indexOf_0f7a4_6 ?_ ?_
  all_goals first | rfl | exact congrArg (fun z : Int => (some (vI z) : Option AV)) (b2_t (by omega)) | exact congrArg (fun z : Int => (some (vI z) : Option AV)) (b2_f (by omega)) | ((repeat' split) <;> first | rfl | omega) | (refine congrArg (fun z : Int => (some (vI z) : Option AV)) ?_; (repeat' split) <;> first | rfl | omega)
