/-! leaves: small methods of the class and of the reference -/
theorem cmpI_lt (a b : Int) : (cmpI a b < 0) ↔ a < b := by unfold cmpI; split <;> (try split) <;> omega
theorem cmpI_le (a b : Int) : (cmpI a b ≤ 0) ↔ a ≤ b := by unfold cmpI; split <;> (try split) <;> omega
theorem cmpI_gt (a b : Int) : (0 < cmpI a b) ↔ b < a := by unfold cmpI; split <;> (try split) <;> omega
theorem cmpI_ge (a b : Int) : (0 ≤ cmpI a b) ↔ b ≤ a := by unfold cmpI; split <;> (try split) <;> omega
theorem cmpI_eq (a b : Int) : (cmpI a b = 0) ↔ a = b := by unfold cmpI; split <;> (try split) <;> omega
theorem cmpI_ne (a b : Int) : (cmpI a b ≠ 0) ↔ a ≠ b := not_congr (cmpI_eq a b)
set_option maxRecDepth 100000 in
set_option maxHeartbeats 4000000 in
theorem c_X11_within {K : KT} {dep : Nat} {h : Hp} {a b c : Int}  (q0 : inI a) (q1 : inI b) (q2 : inI c) : AM K yX11_within cX11_within 3 (some .boolean) dep [vI a, vI b, vI c] h (some (vI (b2 (b ≤ a ∧ a ≤ c)))) (h) := by
  refine AM.of (own := RX11) (ls := [some (vI a), some (vI b), some (vI c)]) rfl (by decide +kernel) (by exact Nat.le_of_ble_eq_true rfl) rfl (fun hO => ?_)
  refine AW.iload_n (pc' := 1) dX11_within_0 rfl ?_
  refine AW.iload_n (pc' := 2) dX11_within_1 rfl ?_
  refine AW.icmp_lt (tgt := 14) (pc' := 5) dX11_within_2 (by first | assumption | omega | (constructor <;> omega) | (simp only [Int.toNat_natCast]; omega) | exact b2_in _) (by first | assumption | omega | (constructor <;> omega) | (simp only [Int.toNat_natCast]; omega) | exact b2_in _) (fun c2 => ?_) (fun c2 => ?_)
  · refine AW.iconst (pc' := 15) dX11_within_14 ?_
    refine AW.zret dX11_within_15 ?_ ?_ (by first | exact Or.inl rfl | exact Or.inr rfl | exact b2_01 _ | assumption | (subst_vars; omega))
    all_goals first | rfl | exact congrArg (fun z : Int => (some (vI z) : Option AV)) (b2_t (by omega)) | exact congrArg (fun z : Int => (some (vI z) : Option AV)) (b2_f (by omega)) | ((repeat' split) <;> first | rfl | omega)
  · refine AW.iload_n (pc' := 6) dX11_within_5 rfl ?_
    refine AW.iload_n (pc' := 7) dX11_within_6 rfl ?_
    refine AW.icmp_gt (tgt := 14) (pc' := 10) dX11_within_7 (by first | assumption | omega | (constructor <;> omega) | (simp only [Int.toNat_natCast]; omega) | exact b2_in _) (by first | assumption | omega | (constructor <;> omega) | (simp only [Int.toNat_natCast]; omega) | exact b2_in _) (fun c7 => ?_) (fun c7 => ?_)
    · refine AW.iconst (pc' := 15) dX11_within_14 ?_
      refine AW.zret dX11_within_15 ?_ ?_ (by first | exact Or.inl rfl | exact Or.inr rfl | exact b2_01 _ | assumption | (subst_vars; omega))
      all_goals first | rfl | exact congrArg (fun z : Int => (some (vI z) : Option AV)) (b2_t (by omega)) | exact congrArg (fun z : Int => (some (vI z) : Option AV)) (b2_f (by omega)) | ((repeat' split) <;> first | rfl | omega)
    · refine AW.iconst (pc' := 11) dX11_within_10 ?_
      refine AW.goto (tgt := 15) dX11_within_11 ?_
      refine AW.zret dX11_within_15 ?_ ?_ (by first | exact Or.inl rfl | exact Or.inr rfl | exact b2_01 _ | assumption | (subst_vars; omega))
      all_goals first | rfl | exact congrArg (fun z : Int => (some (vI z) : Option AV)) (b2_t (by omega)) | exact congrArg (fun z : Int => (some (vI z) : Option AV)) (b2_f (by omega)) | ((repeat' split) <;> first | rfl | omega)
set_option maxRecDepth 100000 in
set_option maxHeartbeats 4000000 in
theorem c_X12_isIn {K : KT} {dep : Nat} {h : Hp} {a b c : Int}  (q0 : inI a) (q1 : inI b) (q2 : inI c) : AM K yX12_isIn cX12_isIn 3 (some .boolean) dep [vI a, vI b, vI c] h (some (vI (b2 (b ≤ a ∧ a ≤ c)))) (h) := by
  refine AM.of (own := RX12) (ls := [some (vI a), some (vI b), some (vI c)]) rfl (by decide +kernel) (by exact Nat.le_of_ble_eq_true rfl) rfl (fun hO => ?_)
  refine AW.iload_n (pc' := 1) dX12_isIn_0 rfl ?_
  refine AW.iload_n (pc' := 2) dX12_isIn_1 rfl ?_
  refine AW.icmp_lt (tgt := 14) (pc' := 5) dX12_isIn_2 (by first | assumption | omega | (constructor <;> omega) | (simp only [Int.toNat_natCast]; omega) | exact b2_in _) (by first | assumption | omega | (constructor <;> omega) | (simp only [Int.toNat_natCast]; omega) | exact b2_in _) (fun c2 => ?_) (fun c2 => ?_)
  · refine AW.iconst (pc' := 15) dX12_isIn_14 ?_
    refine AW.zret dX12_isIn_15 ?_ ?_ (by first | exact Or.inl rfl | exact Or.inr rfl | exact b2_01 _ | assumption | (subst_vars; omega))
    all_goals first | rfl | exact congrArg (fun z : Int => (some (vI z) : Option AV)) (b2_t (by omega)) | exact congrArg (fun z : Int => (some (vI z) : Option AV)) (b2_f (by omega)) | ((repeat' split) <;> first | rfl | omega)
  · refine AW.iload_n (pc' := 6) dX12_isIn_5 rfl ?_
    refine AW.iload_n (pc' := 7) dX12_isIn_6 rfl ?_
    refine AW.icmp_gt (tgt := 14) (pc' := 10) dX12_isIn_7 (by first | assumption | omega | (constructor <;> omega) | (simp only [Int.toNat_natCast]; omega) | exact b2_in _) (by first | assumption | omega | (constructor <;> omega) | (simp only [Int.toNat_natCast]; omega) | exact b2_in _) (fun c7 => ?_) (fun c7 => ?_)
    · refine AW.iconst (pc' := 15) dX12_isIn_14 ?_
      refine AW.zret dX12_isIn_15 ?_ ?_ (by first | exact Or.inl rfl | exact Or.inr rfl | exact b2_01 _ | assumption | (subst_vars; omega))
      all_goals first | rfl | exact congrArg (fun z : Int => (some (vI z) : Option AV)) (b2_t (by omega)) | exact congrArg (fun z : Int => (some (vI z) : Option AV)) (b2_f (by omega)) | ((repeat' split) <;> first | rfl | omega)
    · refine AW.iconst (pc' := 11) dX12_isIn_10 ?_
      refine AW.goto (tgt := 15) dX12_isIn_11 ?_
      refine AW.zret dX12_isIn_15 ?_ ?_ (by first | exact Or.inl rfl | exact Or.inr rfl | exact b2_01 _ | assumption | (subst_vars; omega))
      all_goals first | rfl | exact congrArg (fun z : Int => (some (vI z) : Option AV)) (b2_t (by omega)) | exact congrArg (fun z : Int => (some (vI z) : Option AV)) (b2_f (by omega)) | ((repeat' split) <;> first | rfl | omega)
set_option maxRecDepth 100000 in
set_option maxHeartbeats 4000000 in
theorem c_X6_has {K : KT} {dep : Nat} {h : Hp} {a : Int}  (q0 : inI a) : AM K yX6_has cX6_has 2 (some .boolean) dep [vR 1, vI a] h (some (vI (b2 (0 ≤ a ∧ a < h 1 4)))) (h) := by
  refine AM.of (own := RX6) (ls := [some (vR 1), some (vI a)]) rfl (by decide +kernel) (by exact Nat.le_of_ble_eq_true rfl) rfl (fun hO => ?_)
  refine AW.iload_n (pc' := 1) dX6_has_0 rfl ?_
  refine AW.if_lt (tgt := 16) (pc' := 4) dX6_has_1 (by first | assumption | omega | (constructor <;> omega) | (simp only [Int.toNat_natCast]; omega) | exact b2_in _) (fun c1 => ?_) (fun c1 => ?_)
  · refine AW.iconst (pc' := 17) dX6_has_16 ?_
    refine AW.zret dX6_has_17 ?_ ?_ (by first | exact Or.inl rfl | exact Or.inr rfl | exact b2_01 _ | assumption | (subst_vars; omega))
    all_goals first | rfl | exact congrArg (fun z : Int => (some (vI z) : Option AV)) (b2_t (by omega)) | exact congrArg (fun z : Int => (some (vI z) : Option AV)) (b2_f (by omega)) | ((repeat' split) <;> first | rfl | omega)
  · refine AW.iload_n (pc' := 5) dX6_has_4 rfl ?_
    refine AW.aload_n (pc' := 6) dX6_has_5 rfl ?_
    refine AW.getI (pc' := 9) dX6_has_6 ly_1 fX6_24 rfl (fun r6 => ?_)
    refine AW.icmp_ge (tgt := 16) (pc' := 12) dX6_has_9 (by first | assumption | omega | (constructor <;> omega) | (simp only [Int.toNat_natCast]; omega) | exact b2_in _) (by first | assumption | omega | (constructor <;> omega) | (simp only [Int.toNat_natCast]; omega) | exact b2_in _) (fun c9 => ?_) (fun c9 => ?_)
    · refine AW.iconst (pc' := 17) dX6_has_16 ?_
      refine AW.zret dX6_has_17 ?_ ?_ (by first | exact Or.inl rfl | exact Or.inr rfl | exact b2_01 _ | assumption | (subst_vars; omega))
      all_goals first | rfl | exact congrArg (fun z : Int => (some (vI z) : Option AV)) (b2_t (by omega)) | exact congrArg (fun z : Int => (some (vI z) : Option AV)) (b2_f (by omega)) | ((repeat' split) <;> first | rfl | omega)
    · refine AW.iconst (pc' := 13) dX6_has_12 ?_
      refine AW.goto (tgt := 17) dX6_has_13 ?_
      refine AW.zret dX6_has_17 ?_ ?_ (by first | exact Or.inl rfl | exact Or.inr rfl | exact b2_01 _ | assumption | (subst_vars; omega))
      all_goals first | rfl | exact congrArg (fun z : Int => (some (vI z) : Option AV)) (b2_t (by omega)) | exact congrArg (fun z : Int => (some (vI z) : Option AV)) (b2_f (by omega)) | ((repeat' split) <;> first | rfl | omega)
set_option maxRecDepth 100000 in
set_option maxHeartbeats 4000000 in
theorem c_X9_has {K : KT} {dep : Nat} {h : Hp} {a : Int}  (q0 : inI a) : AM K yX9_has cX9_has 2 (some .boolean) dep [vR 6, vI a] h (some (vI (b2 (0 ≤ a ∧ a < h 6 3)))) (h) := by
  refine AM.of (own := RX9) (ls := [some (vR 6), some (vI a)]) rfl (by decide +kernel) (by exact Nat.le_of_ble_eq_true rfl) rfl (fun hO => ?_)
  refine AW.iload_n (pc' := 1) dX9_has_0 rfl ?_
  refine AW.if_lt (tgt := 16) (pc' := 4) dX9_has_1 (by first | assumption | omega | (constructor <;> omega) | (simp only [Int.toNat_natCast]; omega) | exact b2_in _) (fun c1 => ?_) (fun c1 => ?_)
  · refine AW.iconst (pc' := 17) dX9_has_16 ?_
    refine AW.zret dX9_has_17 ?_ ?_ (by first | exact Or.inl rfl | exact Or.inr rfl | exact b2_01 _ | assumption | (subst_vars; omega))
    all_goals first | rfl | exact congrArg (fun z : Int => (some (vI z) : Option AV)) (b2_t (by omega)) | exact congrArg (fun z : Int => (some (vI z) : Option AV)) (b2_f (by omega)) | ((repeat' split) <;> first | rfl | omega)
  · refine AW.iload_n (pc' := 5) dX9_has_4 rfl ?_
    refine AW.aload_n (pc' := 6) dX9_has_5 rfl ?_
    refine AW.getI (pc' := 9) dX9_has_6 ly_6 fX9_21 rfl (fun r6 => ?_)
    refine AW.icmp_ge (tgt := 16) (pc' := 12) dX9_has_9 (by first | assumption | omega | (constructor <;> omega) | (simp only [Int.toNat_natCast]; omega) | exact b2_in _) (by first | assumption | omega | (constructor <;> omega) | (simp only [Int.toNat_natCast]; omega) | exact b2_in _) (fun c9 => ?_) (fun c9 => ?_)
    · refine AW.iconst (pc' := 17) dX9_has_16 ?_
      refine AW.zret dX9_has_17 ?_ ?_ (by first | exact Or.inl rfl | exact Or.inr rfl | exact b2_01 _ | assumption | (subst_vars; omega))
      all_goals first | rfl | exact congrArg (fun z : Int => (some (vI z) : Option AV)) (b2_t (by omega)) | exact congrArg (fun z : Int => (some (vI z) : Option AV)) (b2_f (by omega)) | ((repeat' split) <;> first | rfl | omega)
    · refine AW.iconst (pc' := 13) dX9_has_12 ?_
      refine AW.goto (tgt := 17) dX9_has_13 ?_
      refine AW.zret dX9_has_17 ?_ ?_ (by first | exact Or.inl rfl | exact Or.inr rfl | exact b2_01 _ | assumption | (subst_vars; omega))
      all_goals first | rfl | exact congrArg (fun z : Int => (some (vI z) : Option AV)) (b2_t (by omega)) | exact congrArg (fun z : Int => (some (vI z) : Option AV)) (b2_f (by omega)) | ((repeat' split) <;> first | rfl | omega)
set_option maxRecDepth 100000 in
set_option maxHeartbeats 4000000 in
theorem c_X4_has {K : KT} {dep : Nat} {h : Hp} {a : Int}  (q0 : inI a) : AM K yX4_has cX4_has 2 (some .boolean) dep [vR 10, vI a] h (some (vI (b2 (0 ≤ a ∧ a < h 10 1)))) (h) := by
  refine AM.of (own := RX4) (ls := [some (vR 10), some (vI a)]) rfl (by decide +kernel) (by exact Nat.le_of_ble_eq_true rfl) rfl (fun hO => ?_)
  refine AW.iload_n (pc' := 1) dX4_has_0 rfl ?_
  refine AW.if_lt (tgt := 16) (pc' := 4) dX4_has_1 (by first | assumption | omega | (constructor <;> omega) | (simp only [Int.toNat_natCast]; omega) | exact b2_in _) (fun c1 => ?_) (fun c1 => ?_)
  · refine AW.iconst (pc' := 17) dX4_has_16 ?_
    refine AW.zret dX4_has_17 ?_ ?_ (by first | exact Or.inl rfl | exact Or.inr rfl | exact b2_01 _ | assumption | (subst_vars; omega))
    all_goals first | rfl | exact congrArg (fun z : Int => (some (vI z) : Option AV)) (b2_t (by omega)) | exact congrArg (fun z : Int => (some (vI z) : Option AV)) (b2_f (by omega)) | ((repeat' split) <;> first | rfl | omega)
  · refine AW.iload_n (pc' := 5) dX4_has_4 rfl ?_
    refine AW.aload_n (pc' := 6) dX4_has_5 rfl ?_
    refine AW.getI (pc' := 9) dX4_has_6 ly_10 fX4_15 rfl (fun r6 => ?_)
    refine AW.icmp_ge (tgt := 16) (pc' := 12) dX4_has_9 (by first | assumption | omega | (constructor <;> omega) | (simp only [Int.toNat_natCast]; omega) | exact b2_in _) (by first | assumption | omega | (constructor <;> omega) | (simp only [Int.toNat_natCast]; omega) | exact b2_in _) (fun c9 => ?_) (fun c9 => ?_)
    · refine AW.iconst (pc' := 17) dX4_has_16 ?_
      refine AW.zret dX4_has_17 ?_ ?_ (by first | exact Or.inl rfl | exact Or.inr rfl | exact b2_01 _ | assumption | (subst_vars; omega))
      all_goals first | rfl | exact congrArg (fun z : Int => (some (vI z) : Option AV)) (b2_t (by omega)) | exact congrArg (fun z : Int => (some (vI z) : Option AV)) (b2_f (by omega)) | ((repeat' split) <;> first | rfl | omega)
    · refine AW.iconst (pc' := 13) dX4_has_12 ?_
      refine AW.goto (tgt := 17) dX4_has_13 ?_
      refine AW.zret dX4_has_17 ?_ ?_ (by first | exact Or.inl rfl | exact Or.inr rfl | exact b2_01 _ | assumption | (subst_vars; omega))
      all_goals first | rfl | exact congrArg (fun z : Int => (some (vI z) : Option AV)) (b2_t (by omega)) | exact congrArg (fun z : Int => (some (vI z) : Option AV)) (b2_f (by omega)) | ((repeat' split) <;> first | rfl | omega)
set_option maxRecDepth 100000 in
set_option maxHeartbeats 4000000 in
theorem c_X7_has {K : KT} {dep : Nat} {h : Hp} {a : Int}  (q0 : inI a) : AM K yX7_has cX7_has 2 (some .boolean) dep [vR 12, vI a] h (some (vI (b2 (0 ≤ a ∧ a < h 12 10)))) (h) := by
  refine AM.of (own := RX7) (ls := [some (vR 12), some (vI a)]) rfl (by decide +kernel) (by exact Nat.le_of_ble_eq_true rfl) rfl (fun hO => ?_)
  refine AW.iload_n (pc' := 1) dX7_has_0 rfl ?_
  refine AW.if_lt (tgt := 16) (pc' := 4) dX7_has_1 (by first | assumption | omega | (constructor <;> omega) | (simp only [Int.toNat_natCast]; omega) | exact b2_in _) (fun c1 => ?_) (fun c1 => ?_)
  · refine AW.iconst (pc' := 17) dX7_has_16 ?_
    refine AW.zret dX7_has_17 ?_ ?_ (by first | exact Or.inl rfl | exact Or.inr rfl | exact b2_01 _ | assumption | (subst_vars; omega))
    all_goals first | rfl | exact congrArg (fun z : Int => (some (vI z) : Option AV)) (b2_t (by omega)) | exact congrArg (fun z : Int => (some (vI z) : Option AV)) (b2_f (by omega)) | ((repeat' split) <;> first | rfl | omega)
  · refine AW.iload_n (pc' := 5) dX7_has_4 rfl ?_
    refine AW.aload_n (pc' := 6) dX7_has_5 rfl ?_
    refine AW.getI (pc' := 9) dX7_has_6 ly_12 fX7_44 rfl (fun r6 => ?_)
    refine AW.icmp_ge (tgt := 16) (pc' := 12) dX7_has_9 (by first | assumption | omega | (constructor <;> omega) | (simp only [Int.toNat_natCast]; omega) | exact b2_in _) (by first | assumption | omega | (constructor <;> omega) | (simp only [Int.toNat_natCast]; omega) | exact b2_in _) (fun c9 => ?_) (fun c9 => ?_)
    · refine AW.iconst (pc' := 17) dX7_has_16 ?_
      refine AW.zret dX7_has_17 ?_ ?_ (by first | exact Or.inl rfl | exact Or.inr rfl | exact b2_01 _ | assumption | (subst_vars; omega))
      all_goals first | rfl | exact congrArg (fun z : Int => (some (vI z) : Option AV)) (b2_t (by omega)) | exact congrArg (fun z : Int => (some (vI z) : Option AV)) (b2_f (by omega)) | ((repeat' split) <;> first | rfl | omega)
    · refine AW.iconst (pc' := 13) dX7_has_12 ?_
      refine AW.goto (tgt := 17) dX7_has_13 ?_
      refine AW.zret dX7_has_17 ?_ ?_ (by first | exact Or.inl rfl | exact Or.inr rfl | exact b2_01 _ | assumption | (subst_vars; omega))
      all_goals first | rfl | exact congrArg (fun z : Int => (some (vI z) : Option AV)) (b2_t (by omega)) | exact congrArg (fun z : Int => (some (vI z) : Option AV)) (b2_f (by omega)) | ((repeat' split) <;> first | rfl | omega)
set_option maxRecDepth 100000 in
set_option maxHeartbeats 4000000 in
theorem c_X0_has {K : KT} {dep : Nat} {h : Hp} {a : Int}  (q0 : inI a) : AM K yX0_has cX0_has 2 (some .boolean) dep [vR 43, vI a] h (some (vI (b2 (0 ≤ a ∧ a < h 43 2)))) (h) := by
  refine AM.of (own := RX0) (ls := [some (vR 43), some (vI a)]) rfl (by decide +kernel) (by exact Nat.le_of_ble_eq_true rfl) rfl (fun hO => ?_)
  refine AW.iload_n (pc' := 1) dX0_has_0 rfl ?_
  refine AW.if_lt (tgt := 16) (pc' := 4) dX0_has_1 (by first | assumption | omega | (constructor <;> omega) | (simp only [Int.toNat_natCast]; omega) | exact b2_in _) (fun c1 => ?_) (fun c1 => ?_)
  · refine AW.iconst (pc' := 17) dX0_has_16 ?_
    refine AW.zret dX0_has_17 ?_ ?_ (by first | exact Or.inl rfl | exact Or.inr rfl | exact b2_01 _ | assumption | (subst_vars; omega))
    all_goals first | rfl | exact congrArg (fun z : Int => (some (vI z) : Option AV)) (b2_t (by omega)) | exact congrArg (fun z : Int => (some (vI z) : Option AV)) (b2_f (by omega)) | ((repeat' split) <;> first | rfl | omega)
  · refine AW.iload_n (pc' := 5) dX0_has_4 rfl ?_
    refine AW.aload_n (pc' := 6) dX0_has_5 rfl ?_
    refine AW.getI (pc' := 9) dX0_has_6 ly_43 fX0_18 rfl (fun r6 => ?_)
    refine AW.icmp_ge (tgt := 16) (pc' := 12) dX0_has_9 (by first | assumption | omega | (constructor <;> omega) | (simp only [Int.toNat_natCast]; omega) | exact b2_in _) (by first | assumption | omega | (constructor <;> omega) | (simp only [Int.toNat_natCast]; omega) | exact b2_in _) (fun c9 => ?_) (fun c9 => ?_)
    · refine AW.iconst (pc' := 17) dX0_has_16 ?_
      refine AW.zret dX0_has_17 ?_ ?_ (by first | exact Or.inl rfl | exact Or.inr rfl | exact b2_01 _ | assumption | (subst_vars; omega))
      all_goals first | rfl | exact congrArg (fun z : Int => (some (vI z) : Option AV)) (b2_t (by omega)) | exact congrArg (fun z : Int => (some (vI z) : Option AV)) (b2_f (by omega)) | ((repeat' split) <;> first | rfl | omega)
    · refine AW.iconst (pc' := 13) dX0_has_12 ?_
      refine AW.goto (tgt := 17) dX0_has_13 ?_
      refine AW.zret dX0_has_17 ?_ ?_ (by first | exact Or.inl rfl | exact Or.inr rfl | exact b2_01 _ | assumption | (subst_vars; omega))
      all_goals first | rfl | exact congrArg (fun z : Int => (some (vI z) : Option AV)) (b2_t (by omega)) | exact congrArg (fun z : Int => (some (vI z) : Option AV)) (b2_f (by omega)) | ((repeat' split) <;> first | rfl | omega)
set_option maxRecDepth 100000 in
set_option maxHeartbeats 4000000 in
theorem c_X12_isRunner {K : KT} {dep : Nat} {h : Hp} {a : Int}  (q0 : inI a) : AM K yX12_isRunner cX12_isRunner 2 (some .boolean) dep [vR 57, vI a] h (some (vI (b2 (0 ≤ a ∧ a < h 57 13)))) (h) := by
  refine AM.of (own := RX12) (ls := [some (vR 57), some (vI a)]) rfl (by decide +kernel) (by exact Nat.le_of_ble_eq_true rfl) rfl (fun hO => ?_)
  refine AW.iload_n (pc' := 1) dX12_isRunner_0 rfl ?_
  refine AW.if_lt (tgt := 16) (pc' := 4) dX12_isRunner_1 (by first | assumption | omega | (constructor <;> omega) | (simp only [Int.toNat_natCast]; omega) | exact b2_in _) (fun c1 => ?_) (fun c1 => ?_)
  · refine AW.iconst (pc' := 17) dX12_isRunner_16 ?_
    refine AW.zret dX12_isRunner_17 ?_ ?_ (by first | exact Or.inl rfl | exact Or.inr rfl | exact b2_01 _ | assumption | (subst_vars; omega))
    all_goals first | rfl | exact congrArg (fun z : Int => (some (vI z) : Option AV)) (b2_t (by omega)) | exact congrArg (fun z : Int => (some (vI z) : Option AV)) (b2_f (by omega)) | ((repeat' split) <;> first | rfl | omega)
  · refine AW.iload_n (pc' := 5) dX12_isRunner_4 rfl ?_
    refine AW.aload_n (pc' := 6) dX12_isRunner_5 rfl ?_
    refine AW.getI (pc' := 9) dX12_isRunner_6 ly_57 fX12_122 rfl (fun r6 => ?_)
    refine AW.icmp_ge (tgt := 16) (pc' := 12) dX12_isRunner_9 (by first | assumption | omega | (constructor <;> omega) | (simp only [Int.toNat_natCast]; omega) | exact b2_in _) (by first | assumption | omega | (constructor <;> omega) | (simp only [Int.toNat_natCast]; omega) | exact b2_in _) (fun c9 => ?_) (fun c9 => ?_)
    · refine AW.iconst (pc' := 17) dX12_isRunner_16 ?_
      refine AW.zret dX12_isRunner_17 ?_ ?_ (by first | exact Or.inl rfl | exact Or.inr rfl | exact b2_01 _ | assumption | (subst_vars; omega))
      all_goals first | rfl | exact congrArg (fun z : Int => (some (vI z) : Option AV)) (b2_t (by omega)) | exact congrArg (fun z : Int => (some (vI z) : Option AV)) (b2_f (by omega)) | ((repeat' split) <;> first | rfl | omega)
    · refine AW.iconst (pc' := 13) dX12_isRunner_12 ?_
      refine AW.goto (tgt := 17) dX12_isRunner_13 ?_
      refine AW.zret dX12_isRunner_17 ?_ ?_ (by first | exact Or.inl rfl | exact Or.inr rfl | exact b2_01 _ | assumption | (subst_vars; omega))
      all_goals first | rfl | exact congrArg (fun z : Int => (some (vI z) : Option AV)) (b2_t (by omega)) | exact congrArg (fun z : Int => (some (vI z) : Option AV)) (b2_f (by omega)) | ((repeat' split) <;> first | rfl | omega)
set_option maxRecDepth 100000 in
set_option maxHeartbeats 4000000 in
theorem c_X12_isShoe {K : KT} {dep : Nat} {h : Hp} {a : Int}  (q0 : inI a) : AM K yX12_isShoe cX12_isShoe 2 (some .boolean) dep [vR 57, vI a] h (some (vI (b2 (0 ≤ a ∧ a < h 57 14)))) (h) := by
  refine AM.of (own := RX12) (ls := [some (vR 57), some (vI a)]) rfl (by decide +kernel) (by exact Nat.le_of_ble_eq_true rfl) rfl (fun hO => ?_)
  refine AW.iload_n (pc' := 1) dX12_isShoe_0 rfl ?_
  refine AW.if_lt (tgt := 16) (pc' := 4) dX12_isShoe_1 (by first | assumption | omega | (constructor <;> omega) | (simp only [Int.toNat_natCast]; omega) | exact b2_in _) (fun c1 => ?_) (fun c1 => ?_)
  · refine AW.iconst (pc' := 17) dX12_isShoe_16 ?_
    refine AW.zret dX12_isShoe_17 ?_ ?_ (by first | exact Or.inl rfl | exact Or.inr rfl | exact b2_01 _ | assumption | (subst_vars; omega))
    all_goals first | rfl | exact congrArg (fun z : Int => (some (vI z) : Option AV)) (b2_t (by omega)) | exact congrArg (fun z : Int => (some (vI z) : Option AV)) (b2_f (by omega)) | ((repeat' split) <;> first | rfl | omega)
  · refine AW.iload_n (pc' := 5) dX12_isShoe_4 rfl ?_
    refine AW.aload_n (pc' := 6) dX12_isShoe_5 rfl ?_
    refine AW.getI (pc' := 9) dX12_isShoe_6 ly_57 fX12_114 rfl (fun r6 => ?_)
    refine AW.icmp_ge (tgt := 16) (pc' := 12) dX12_isShoe_9 (by first | assumption | omega | (constructor <;> omega) | (simp only [Int.toNat_natCast]; omega) | exact b2_in _) (by first | assumption | omega | (constructor <;> omega) | (simp only [Int.toNat_natCast]; omega) | exact b2_in _) (fun c9 => ?_) (fun c9 => ?_)
    · refine AW.iconst (pc' := 17) dX12_isShoe_16 ?_
      refine AW.zret dX12_isShoe_17 ?_ ?_ (by first | exact Or.inl rfl | exact Or.inr rfl | exact b2_01 _ | assumption | (subst_vars; omega))
      all_goals first | rfl | exact congrArg (fun z : Int => (some (vI z) : Option AV)) (b2_t (by omega)) | exact congrArg (fun z : Int => (some (vI z) : Option AV)) (b2_f (by omega)) | ((repeat' split) <;> first | rfl | omega)
    · refine AW.iconst (pc' := 13) dX12_isShoe_12 ?_
      refine AW.goto (tgt := 17) dX12_isShoe_13 ?_
      refine AW.zret dX12_isShoe_17 ?_ ?_ (by first | exact Or.inl rfl | exact Or.inr rfl | exact b2_01 _ | assumption | (subst_vars; omega))
      all_goals first | rfl | exact congrArg (fun z : Int => (some (vI z) : Option AV)) (b2_t (by omega)) | exact congrArg (fun z : Int => (some (vI z) : Option AV)) (b2_f (by omega)) | ((repeat' split) <;> first | rfl | omega)
set_option maxRecDepth 100000 in
set_option maxHeartbeats 4000000 in
theorem c_X12_isCourse {K : KT} {dep : Nat} {h : Hp} {a : Int}  (q0 : inI a) : AM K yX12_isCourse cX12_isCourse 2 (some .boolean) dep [vR 57, vI a] h (some (vI (b2 (0 ≤ a ∧ a < h 57 15)))) (h) := by
  refine AM.of (own := RX12) (ls := [some (vR 57), some (vI a)]) rfl (by decide +kernel) (by exact Nat.le_of_ble_eq_true rfl) rfl (fun hO => ?_)
  refine AW.iload_n (pc' := 1) dX12_isCourse_0 rfl ?_
  refine AW.if_lt (tgt := 16) (pc' := 4) dX12_isCourse_1 (by first | assumption | omega | (constructor <;> omega) | (simp only [Int.toNat_natCast]; omega) | exact b2_in _) (fun c1 => ?_) (fun c1 => ?_)
  · refine AW.iconst (pc' := 17) dX12_isCourse_16 ?_
    refine AW.zret dX12_isCourse_17 ?_ ?_ (by first | exact Or.inl rfl | exact Or.inr rfl | exact b2_01 _ | assumption | (subst_vars; omega))
    all_goals first | rfl | exact congrArg (fun z : Int => (some (vI z) : Option AV)) (b2_t (by omega)) | exact congrArg (fun z : Int => (some (vI z) : Option AV)) (b2_f (by omega)) | ((repeat' split) <;> first | rfl | omega)
  · refine AW.iload_n (pc' := 5) dX12_isCourse_4 rfl ?_
    refine AW.aload_n (pc' := 6) dX12_isCourse_5 rfl ?_
    refine AW.getI (pc' := 9) dX12_isCourse_6 ly_57 fX12_125 rfl (fun r6 => ?_)
    refine AW.icmp_ge (tgt := 16) (pc' := 12) dX12_isCourse_9 (by first | assumption | omega | (constructor <;> omega) | (simp only [Int.toNat_natCast]; omega) | exact b2_in _) (by first | assumption | omega | (constructor <;> omega) | (simp only [Int.toNat_natCast]; omega) | exact b2_in _) (fun c9 => ?_) (fun c9 => ?_)
    · refine AW.iconst (pc' := 17) dX12_isCourse_16 ?_
      refine AW.zret dX12_isCourse_17 ?_ ?_ (by first | exact Or.inl rfl | exact Or.inr rfl | exact b2_01 _ | assumption | (subst_vars; omega))
      all_goals first | rfl | exact congrArg (fun z : Int => (some (vI z) : Option AV)) (b2_t (by omega)) | exact congrArg (fun z : Int => (some (vI z) : Option AV)) (b2_f (by omega)) | ((repeat' split) <;> first | rfl | omega)
    · refine AW.iconst (pc' := 13) dX12_isCourse_12 ?_
      refine AW.goto (tgt := 17) dX12_isCourse_13 ?_
      refine AW.zret dX12_isCourse_17 ?_ ?_ (by first | exact Or.inl rfl | exact Or.inr rfl | exact b2_01 _ | assumption | (subst_vars; omega))
      all_goals first | rfl | exact congrArg (fun z : Int => (some (vI z) : Option AV)) (b2_t (by omega)) | exact congrArg (fun z : Int => (some (vI z) : Option AV)) (b2_f (by omega)) | ((repeat' split) <;> first | rfl | omega)
set_option maxRecDepth 100000 in
set_option maxHeartbeats 4000000 in
theorem c_X12_isRun {K : KT} {dep : Nat} {h : Hp} {a : Int}  (q0 : inI a) : AM K yX12_isRun cX12_isRun 2 (some .boolean) dep [vR 57, vI a] h (some (vI (b2 (0 ≤ a ∧ a < h 57 16)))) (h) := by
  refine AM.of (own := RX12) (ls := [some (vR 57), some (vI a)]) rfl (by decide +kernel) (by exact Nat.le_of_ble_eq_true rfl) rfl (fun hO => ?_)
  refine AW.iload_n (pc' := 1) dX12_isRun_0 rfl ?_
  refine AW.if_lt (tgt := 16) (pc' := 4) dX12_isRun_1 (by first | assumption | omega | (constructor <;> omega) | (simp only [Int.toNat_natCast]; omega) | exact b2_in _) (fun c1 => ?_) (fun c1 => ?_)
  · refine AW.iconst (pc' := 17) dX12_isRun_16 ?_
    refine AW.zret dX12_isRun_17 ?_ ?_ (by first | exact Or.inl rfl | exact Or.inr rfl | exact b2_01 _ | assumption | (subst_vars; omega))
    all_goals first | rfl | exact congrArg (fun z : Int => (some (vI z) : Option AV)) (b2_t (by omega)) | exact congrArg (fun z : Int => (some (vI z) : Option AV)) (b2_f (by omega)) | ((repeat' split) <;> first | rfl | omega)
  · refine AW.iload_n (pc' := 5) dX12_isRun_4 rfl ?_
    refine AW.aload_n (pc' := 6) dX12_isRun_5 rfl ?_
    refine AW.getI (pc' := 9) dX12_isRun_6 ly_57 fX12_128 rfl (fun r6 => ?_)
    refine AW.icmp_ge (tgt := 16) (pc' := 12) dX12_isRun_9 (by first | assumption | omega | (constructor <;> omega) | (simp only [Int.toNat_natCast]; omega) | exact b2_in _) (by first | assumption | omega | (constructor <;> omega) | (simp only [Int.toNat_natCast]; omega) | exact b2_in _) (fun c9 => ?_) (fun c9 => ?_)
    · refine AW.iconst (pc' := 17) dX12_isRun_16 ?_
      refine AW.zret dX12_isRun_17 ?_ ?_ (by first | exact Or.inl rfl | exact Or.inr rfl | exact b2_01 _ | assumption | (subst_vars; omega))
      all_goals first | rfl | exact congrArg (fun z : Int => (some (vI z) : Option AV)) (b2_t (by omega)) | exact congrArg (fun z : Int => (some (vI z) : Option AV)) (b2_f (by omega)) | ((repeat' split) <;> first | rfl | omega)
    · refine AW.iconst (pc' := 13) dX12_isRun_12 ?_
      refine AW.goto (tgt := 17) dX12_isRun_13 ?_
      refine AW.zret dX12_isRun_17 ?_ ?_ (by first | exact Or.inl rfl | exact Or.inr rfl | exact b2_01 _ | assumption | (subst_vars; omega))
      all_goals first | rfl | exact congrArg (fun z : Int => (some (vI z) : Option AV)) (b2_t (by omega)) | exact congrArg (fun z : Int => (some (vI z) : Option AV)) (b2_f (by omega)) | ((repeat' split) <;> first | rfl | omega)
set_option maxRecDepth 100000 in
set_option maxHeartbeats 4000000 in
theorem c_X8_has {K : KT} {dep : Nat} {h : Hp} {a : Int}  (q0 : inI a) : AM K yX8_has cX8_has 2 (some .boolean) dep [vR 46, vI a] h (some (vI (b2 (0 ≤ a ∧ a < 6)))) (h) := by
  refine AM.of (own := RX8) (ls := [some (vR 46), some (vI a)]) rfl (by decide +kernel) (by exact Nat.le_of_ble_eq_true rfl) rfl (fun hO => ?_)
  refine AW.iload_n (pc' := 1) dX8_has_0 rfl ?_
  refine AW.if_lt (tgt := 14) (pc' := 4) dX8_has_1 (by first | assumption | omega | (constructor <;> omega) | (simp only [Int.toNat_natCast]; omega) | exact b2_in _) (fun c1 => ?_) (fun c1 => ?_)
  · refine AW.iconst (pc' := 15) dX8_has_14 ?_
    refine AW.zret dX8_has_15 ?_ ?_ (by first | exact Or.inl rfl | exact Or.inr rfl | exact b2_01 _ | assumption | (subst_vars; omega))
    all_goals first | rfl | exact congrArg (fun z : Int => (some (vI z) : Option AV)) (b2_t (by omega)) | exact congrArg (fun z : Int => (some (vI z) : Option AV)) (b2_f (by omega)) | ((repeat' split) <;> first | rfl | omega)
  · refine AW.iload_n (pc' := 5) dX8_has_4 rfl ?_
    refine AW.bipush (pc' := 7) dX8_has_5 (by decide) ?_
    refine AW.icmp_ge (tgt := 14) (pc' := 10) dX8_has_7 (by first | assumption | omega | (constructor <;> omega) | (simp only [Int.toNat_natCast]; omega) | exact b2_in _) (by first | assumption | omega | (constructor <;> omega) | (simp only [Int.toNat_natCast]; omega) | exact b2_in _) (fun c7 => ?_) (fun c7 => ?_)
    · refine AW.iconst (pc' := 15) dX8_has_14 ?_
      refine AW.zret dX8_has_15 ?_ ?_ (by first | exact Or.inl rfl | exact Or.inr rfl | exact b2_01 _ | assumption | (subst_vars; omega))
      all_goals first | rfl | exact congrArg (fun z : Int => (some (vI z) : Option AV)) (b2_t (by omega)) | exact congrArg (fun z : Int => (some (vI z) : Option AV)) (b2_f (by omega)) | ((repeat' split) <;> first | rfl | omega)
    · refine AW.iconst (pc' := 11) dX8_has_10 ?_
      refine AW.goto (tgt := 15) dX8_has_11 ?_
      refine AW.zret dX8_has_15 ?_ ?_ (by first | exact Or.inl rfl | exact Or.inr rfl | exact b2_01 _ | assumption | (subst_vars; omega))
      all_goals first | rfl | exact congrArg (fun z : Int => (some (vI z) : Option AV)) (b2_t (by omega)) | exact congrArg (fun z : Int => (some (vI z) : Option AV)) (b2_f (by omega)) | ((repeat' split) <;> first | rfl | omega)
set_option maxRecDepth 100000 in
set_option maxHeartbeats 4000000 in
theorem c_X12_isShelf {K : KT} {dep : Nat} {h : Hp} {a : Int}  (q0 : inI a) : AM K yX12_isShelf cX12_isShelf 1 (some .boolean) dep [vI a] h (some (vI (b2 (0 ≤ a ∧ a < 6)))) (h) := by
  refine AM.of (own := RX12) (ls := [some (vI a)]) rfl (by decide +kernel) (by exact Nat.le_of_ble_eq_true rfl) rfl (fun hO => ?_)
  refine AW.iload_n (pc' := 1) dX12_isShelf_0 rfl ?_
  refine AW.if_lt (tgt := 14) (pc' := 4) dX12_isShelf_1 (by first | assumption | omega | (constructor <;> omega) | (simp only [Int.toNat_natCast]; omega) | exact b2_in _) (fun c1 => ?_) (fun c1 => ?_)
  · refine AW.iconst (pc' := 15) dX12_isShelf_14 ?_
    refine AW.zret dX12_isShelf_15 ?_ ?_ (by first | exact Or.inl rfl | exact Or.inr rfl | exact b2_01 _ | assumption | (subst_vars; omega))
    all_goals first | rfl | exact congrArg (fun z : Int => (some (vI z) : Option AV)) (b2_t (by omega)) | exact congrArg (fun z : Int => (some (vI z) : Option AV)) (b2_f (by omega)) | ((repeat' split) <;> first | rfl | omega)
  · refine AW.iload_n (pc' := 5) dX12_isShelf_4 rfl ?_
    refine AW.bipush (pc' := 7) dX12_isShelf_5 (by decide) ?_
    refine AW.icmp_ge (tgt := 14) (pc' := 10) dX12_isShelf_7 (by first | assumption | omega | (constructor <;> omega) | (simp only [Int.toNat_natCast]; omega) | exact b2_in _) (by first | assumption | omega | (constructor <;> omega) | (simp only [Int.toNat_natCast]; omega) | exact b2_in _) (fun c7 => ?_) (fun c7 => ?_)
    · refine AW.iconst (pc' := 15) dX12_isShelf_14 ?_
      refine AW.zret dX12_isShelf_15 ?_ ?_ (by first | exact Or.inl rfl | exact Or.inr rfl | exact b2_01 _ | assumption | (subst_vars; omega))
      all_goals first | rfl | exact congrArg (fun z : Int => (some (vI z) : Option AV)) (b2_t (by omega)) | exact congrArg (fun z : Int => (some (vI z) : Option AV)) (b2_f (by omega)) | ((repeat' split) <;> first | rfl | omega)
    · refine AW.iconst (pc' := 11) dX12_isShelf_10 ?_
      refine AW.goto (tgt := 15) dX12_isShelf_11 ?_
      refine AW.zret dX12_isShelf_15 ?_ ?_ (by first | exact Or.inl rfl | exact Or.inr rfl | exact b2_01 _ | assumption | (subst_vars; omega))
      all_goals first | rfl | exact congrArg (fun z : Int => (some (vI z) : Option AV)) (b2_t (by omega)) | exact congrArg (fun z : Int => (some (vI z) : Option AV)) (b2_f (by omega)) | ((repeat' split) <;> first | rfl | omega)
set_option maxRecDepth 100000 in
set_option maxHeartbeats 4000000 in
theorem c_X11_cut {K : KT} {dep : Nat} {h : Hp} {a b : Int}  (q0 : inL a) (q1 : inL b) : AM K yX11_cut cX11_cut 4 (some .int) dep [vL a, vL b] h (some (vI (if b = 0 then 0 else a.tdiv b))) (h) := by
  refine AM.of (own := RX11) (ls := [some (vL a), none, some (vL b), none]) rfl (by decide +kernel) (by exact Nat.le_of_ble_eq_true rfl) rfl (fun hO => ?_)
  refine AW.lload_n (pc' := 1) dX11_cut_0 rfl ?_
  refine AW.lconst_0 (pc' := 2) dX11_cut_1 ?_
  refine AW.lcmp (pc' := 3) dX11_cut_2 (by first | assumption | omega | (constructor <;> omega) | (simp only [Int.toNat_natCast]; omega) | exact b2_in _) (by first | assumption | omega | (constructor <;> omega) | (simp only [Int.toNat_natCast]; omega) | exact b2_in _) ?_
  refine AW.if_ne (tgt := 10) (pc' := 6) dX11_cut_3 (cmpI_in _ _) (fun c3 => ?_) (fun c3 => ?_)
  · simp only [cmpI_lt, cmpI_le, cmpI_gt, cmpI_ge, cmpI_eq, cmpI_ne] at c3
    refine AW.lload_n (pc' := 11) dX11_cut_10 rfl ?_
    refine AW.lload_n (pc' := 12) dX11_cut_11 rfl ?_
    refine AW.ldiv (pc' := 13) dX11_cut_12 (by first | assumption | omega | (constructor <;> omega) | (simp only [Int.toNat_natCast]; omega) | exact b2_in _) (by first | assumption | omega | (constructor <;> omega) | (simp only [Int.toNat_natCast]; omega) | exact b2_in _) (by first | assumption | omega | (constructor <;> omega) | (simp only [Int.toNat_natCast]; omega) | exact b2_in _) ?_
    refine AW.l2i (pc' := 14) dX11_cut_13 ?_
    refine AW.iret dX11_cut_14 ?_ ?_
    all_goals first | rfl | exact congrArg (fun z : Int => (some (vI z) : Option AV)) (b2_t (by omega)) | exact congrArg (fun z : Int => (some (vI z) : Option AV)) (b2_f (by omega)) | ((repeat' split) <;> first | rfl | omega)
  · simp only [cmpI_lt, cmpI_le, cmpI_gt, cmpI_ge, cmpI_eq, cmpI_ne] at c3
    refine AW.iconst (pc' := 7) dX11_cut_6 ?_
    refine AW.goto (tgt := 14) dX11_cut_7 ?_
    refine AW.iret dX11_cut_14 ?_ ?_
    all_goals first | rfl | exact congrArg (fun z : Int => (some (vI z) : Option AV)) (b2_t (by omega)) | exact congrArg (fun z : Int => (some (vI z) : Option AV)) (b2_f (by omega)) | ((repeat' split) <;> first | rfl | omega)
set_option maxRecDepth 100000 in
set_option maxHeartbeats 4000000 in
theorem c_X11_less {K : KT} {dep : Nat} {h : Hp} {a b : Int}  (q0 : inI a) (q1 : inI b) : AM K yX11_less cX11_less 2 (some .int) dep [vI a, vI b] h (some (vI (if a = -2000000000 ∨ b = -2000000000 then -2000000000 else a - b))) (h) := by
  refine AM.of (own := RX11) (ls := [some (vI a), some (vI b)]) rfl (by decide +kernel) (by exact Nat.le_of_ble_eq_true rfl) rfl (fun hO => ?_)
  refine AW.iload_n (pc' := 1) dX11_less_0 rfl ?_
  refine AW.ldc (v := -2000000000) (pc' := 3) dX11_less_1 kX11_136 ?_
  refine AW.icmp_eq (tgt := 12) (pc' := 6) dX11_less_3 (by first | assumption | omega | (constructor <;> omega) | (simp only [Int.toNat_natCast]; omega) | exact b2_in _) (by first | assumption | omega | (constructor <;> omega) | (simp only [Int.toNat_natCast]; omega) | exact b2_in _) (fun c3 => ?_) (fun c3 => ?_)
  · refine AW.ldc (v := -2000000000) (pc' := 14) dX11_less_12 kX11_136 ?_
    refine AW.goto (tgt := 20) dX11_less_14 ?_
    refine AW.iret dX11_less_20 ?_ ?_
    all_goals first | rfl | exact congrArg (fun z : Int => (some (vI z) : Option AV)) (b2_t (by omega)) | exact congrArg (fun z : Int => (some (vI z) : Option AV)) (b2_f (by omega)) | ((repeat' split) <;> first | rfl | omega)
  · refine AW.iload_n (pc' := 7) dX11_less_6 rfl ?_
    refine AW.ldc (v := -2000000000) (pc' := 9) dX11_less_7 kX11_136 ?_
    refine AW.icmp_ne (tgt := 17) (pc' := 12) dX11_less_9 (by first | assumption | omega | (constructor <;> omega) | (simp only [Int.toNat_natCast]; omega) | exact b2_in _) (by first | assumption | omega | (constructor <;> omega) | (simp only [Int.toNat_natCast]; omega) | exact b2_in _) (fun c9 => ?_) (fun c9 => ?_)
    · refine AW.iload_n (pc' := 18) dX11_less_17 rfl ?_
      refine AW.iload_n (pc' := 19) dX11_less_18 rfl ?_
      refine AW.isub (pc' := 20) dX11_less_19 ?_
      refine AW.iret dX11_less_20 ?_ ?_
      all_goals first | rfl | exact congrArg (fun z : Int => (some (vI z) : Option AV)) (b2_t (by omega)) | exact congrArg (fun z : Int => (some (vI z) : Option AV)) (b2_f (by omega)) | ((repeat' split) <;> first | rfl | omega)
    · refine AW.ldc (v := -2000000000) (pc' := 14) dX11_less_12 kX11_136 ?_
      refine AW.goto (tgt := 20) dX11_less_14 ?_
      refine AW.iret dX11_less_20 ?_ ?_
      all_goals first | rfl | exact congrArg (fun z : Int => (some (vI z) : Option AV)) (b2_t (by omega)) | exact congrArg (fun z : Int => (some (vI z) : Option AV)) (b2_f (by omega)) | ((repeat' split) <;> first | rfl | omega)
def tS (z : Int) : Int := if z < 0 then 0 else z
set_option maxRecDepth 100000 in
set_option maxHeartbeats 4000000 in
theorem c_X11_drawn {K : KT} {dep : Nat} {h : Hp} {z : Int}   : AM K yX11_drawn cX11_drawn 1 (some .int) dep [vI z] h (some (vI (z * 1103515245 + 12345))) (h) := by
  refine AM.of (own := RX11) (ls := [some (vI z)]) rfl (by decide +kernel) (by exact Nat.le_of_ble_eq_true rfl) rfl (fun hO => ?_)
  refine AW.iload_n (pc' := 1) dX11_drawn_0 rfl ?_
  refine AW.ldc (v := 1103515245) (pc' := 3) dX11_drawn_1 kX11_197 ?_
  refine AW.imul (pc' := 4) dX11_drawn_3 ?_
  refine AW.sipush (pc' := 7) dX11_drawn_4 (by decide) ?_
  refine AW.iadd (pc' := 8) dX11_drawn_7 ?_
  refine AW.iret dX11_drawn_8 ?_ ?_
  all_goals first | rfl | exact congrArg (fun z : Int => (some (vI z) : Option AV)) (b2_t (by omega)) | exact congrArg (fun z : Int => (some (vI z) : Option AV)) (b2_f (by omega)) | ((repeat' split) <;> first | rfl | omega)
/-- form then: 600 at least -/
def fThen (fm dr : Nat → Int) (r : Nat) (y : Int) : Int := if fm r + dr r * y < 600 then 600 else fm r + dr r * y
/-- a run's level -/
def lvl (tm hd cs : Nat → Int) (r : Nat) : Int := (tm r * 1000).tdiv (hd (cs r).toNat)
def oldM (tm sh gv : Nat → Int) (r : Nat) : Int := if sh r < 0 then tm r else (tm r * 1000).tdiv (1000 - gv (sh r).toNat)
def PRun (n : Int) (fm dr tr sx : Nat → Int) : Prop := 0 ≤ n ∧ n ≤ 20 ∧ ∀ r : Nat, (r : Int) < n → 600 ≤ fm r ∧ fm r ≤ 9999 ∧ -50 ≤ dr r ∧ dr r ≤ 50 ∧ 0 ≤ tr r ∧ tr r ≤ 99 ∧ 0 ≤ sx r ∧ sx r ≤ 1
def PSho (n : Int) (th gv md : Nat → Int) : Prop := 1 ≤ n ∧ n ≤ 6 ∧ ∀ r : Nat, (r : Int) < n → 1 ≤ th r ∧ th r ≤ 99 ∧ -99 ≤ gv r ∧ gv r ≤ 99 ∧ 0 ≤ md r ∧ md r ≤ 99
def PCou (n : Int) (hd : Nat → Int) : Prop := 0 ≤ n ∧ n ≤ 5 ∧ ∀ r : Nat, (r : Int) < n → 500 ≤ hd r ∧ hd r ≤ 2000
def PRuns (n nr nc ns : Int) (ru co ye ti sh : Nat → Int) : Prop := 0 ≤ n ∧ n ≤ 120 ∧ ∀ r : Nat, (r : Int) < n → 0 ≤ ru r ∧ ru r < nr ∧ 0 ≤ co r ∧ co r < nc ∧ 0 ≤ ye r ∧ ye r ≤ 99 ∧ 10 ≤ ti r ∧ ti r ≤ 29999 ∧ -1 ≤ sh r ∧ sh r < ns
/-- the class's runners, shoes, courses, runs -/
def IXa (h : Hp) : Prop := PRun (h 1 4) (h 2) (h 3) (h 4) (h 5) ∧ PSho (h 6 3) (h 7) (h 8) (h 9) ∧ PCou (h 10 1) (h 11) ∧ PRuns (h 12 10) (h 1 4) (h 10 1) (h 6 3) (h 13) (h 14) (h 15) (h 16) (h 17)
/-- the reference's -/
def IMa (h : Hp) : Prop := PRun (h 57 13) (h 58) (h 59) (h 60) (h 61) ∧ PSho (h 57 14) (h 62) (h 63) (h 64) ∧ PCou (h 57 15) (h 65) ∧ PRuns (h 57 16) (h 57 13) (h 57 15) (h 57 14) (h 66) (h 67) (h 68) (h 69) (h 70)
theorem mul_in {a b A B : Int} (h1 : -A ≤ a) (h2 : a ≤ A) (h3 : 0 ≤ b) (h4 : b ≤ B) (hA : 0 ≤ A) : -(A * B) ≤ a * b ∧ a * b ≤ A * B := by
  have h5 : a * b ≤ A * b := Int.mul_le_mul_of_nonneg_right h2 h3
  have h6 : A * b ≤ A * B := Int.mul_le_mul_of_nonneg_left h4 hA
  have h7 : (-A) * b ≤ a * b := Int.mul_le_mul_of_nonneg_right h1 h3
  have h8 : -(A * B) ≤ (-A) * b := by rw [Int.neg_mul]; omega
  omega
theorem tdiv_le {a b : Int} (ha : 0 ≤ a) (hb : 0 < b) : 0 ≤ a.tdiv b ∧ a.tdiv b ≤ a := by
  rw [Int.tdiv_eq_ediv_of_nonneg ha]
  exact ⟨Int.ediv_nonneg ha (by omega), Int.ediv_le_self b ha⟩
theorem fThen_in {n : Int} {fm dr tr sx : Nat → Int} (H : PRun n fm dr tr sx) {r : Nat} (hr : (r : Int) < n) {y : Int} (hy : 0 ≤ y) (hy2 : y ≤ 99) : -4950 ≤ dr r * y ∧ dr r * y ≤ 4950 ∧ 600 ≤ fThen fm dr r y ∧ fThen fm dr r y ≤ 14949 := by
  obtain ⟨-, -, H⟩ := H
  obtain ⟨h1, h2, h3, h4, -⟩ := H r hr
  have q := mul_in (A := 50) (B := 99) h3 h4 hy hy2 (by omega)
  unfold fThen
  split <;> omega
theorem lvl_in {n nr nc ns : Int} {ru co ye ti sh hd : Nat → Int} (H : PRuns n nr nc ns ru co ye ti sh) (C : PCou nc hd) {r : Nat} (hr : (r : Int) < n) : 500 ≤ hd (co r).toNat ∧ hd (co r).toNat ≤ 2000 ∧ 5 ≤ lvl ti hd co r ∧ lvl ti hd co r ≤ 59998 := by
  obtain ⟨-, -, H⟩ := H
  obtain ⟨-, -, C⟩ := C
  obtain ⟨h1, h2, h3, h4, h5, h6, h7, h8, -⟩ := H r hr
  obtain ⟨c1, c2⟩ := C (co r).toNat (by omega)
  refine ⟨c1, c2, ?_⟩
  unfold lvl
  rw [Int.tdiv_eq_ediv_of_nonneg (by omega)]
  generalize hd (co r).toNat = d at c1 c2
  constructor
  · rw [Int.le_ediv_iff_mul_le (by omega)]
    omega
  · exact Int.ediv_le_of_le_mul (by omega) (by omega)
theorem oldM_in {n nr nc ns : Int} {ru co ye ti sh th gv md : Nat → Int} (H : PRuns n nr nc ns ru co ye ti sh) (S : PSho ns th gv md) {r : Nat} (hr : (r : Int) < n) : 0 ≤ oldM ti sh gv r ∧ oldM ti sh gv r ≤ 29999000 ∧ (0 ≤ sh r → -99 ≤ gv (sh r).toNat ∧ gv (sh r).toNat ≤ 99) := by
  obtain ⟨-, -, H⟩ := H
  obtain ⟨-, -, S⟩ := S
  obtain ⟨h1, h2, h3, h4, h5, h6, h7, h8, h9, h10⟩ := H r hr
  unfold oldM
  by_cases z : sh r < 0
  · rw [if_pos z]
    exact ⟨by omega, by omega, fun y => by omega⟩
  · rw [if_neg z]
    obtain ⟨c1, c2, c3, c4, -⟩ := S (sh r).toNat (by omega)
    have q := tdiv_le (a := ti r * 1000) (b := 1000 - gv (sh r).toNat) (by omega) (by omega)
    exact ⟨q.1, by omega, fun _ => ⟨c3, c4⟩⟩
set_option maxRecDepth 100000 in
set_option maxHeartbeats 4000000 in
theorem c_X6_come {K : KT} {dep : Nat} {h : Hp} {a b c d : Int}  (q0 : 0 ≤ h 1 4) (q1 : inI a) (q2 : inI b) (q3 : inI c) (q4 : inI d) : AM K yX6_come cX6_come 5 (some .int) dep [vR 1, vI a, vI b, vI c, vI d] h (some (vI (if 20 ≤ h 1 4 then -3 else h 1 4))) (if 20 ≤ h 1 4 then h else hset (hset (hset (hset (hset h 2 (h 1 4).toNat a) 3 (h 1 4).toNat b) 4 (h 1 4).toNat c) 5 (h 1 4).toNat d) 1 4 (h 1 4 + 1)) := by
  refine AM.of (own := RX6) (ls := [some (vR 1), some (vI a), some (vI b), some (vI c), some (vI d)]) rfl (by decide +kernel) (by exact Nat.le_of_ble_eq_true rfl) rfl (fun hO => ?_)
  refine AW.aload_n (pc' := 1) dX6_come_0 rfl ?_
  refine AW.getI (pc' := 4) dX6_come_1 ly_1 fX6_24 rfl (fun r1 => ?_)
  refine AW.bipush (pc' := 6) dX6_come_4 (by decide) ?_
  refine AW.icmp_lt (tgt := 12) (pc' := 9) dX6_come_6 (by first | assumption | omega | (constructor <;> omega) | (simp only [Int.toNat_natCast]; omega) | exact b2_in _) (by first | assumption | omega | (constructor <;> omega) | (simp only [Int.toNat_natCast]; omega) | exact b2_in _) (fun c6 => ?_) (fun c6 => ?_)
  · refine AW.aload_n (pc' := 13) dX6_come_12 rfl ?_
    refine AW.getR (pc' := 16) dX6_come_13 ly_1 fX6_9 rfl ?_
    refine AW.aload_n (pc' := 17) dX6_come_16 rfl ?_
    refine AW.getI (pc' := 20) dX6_come_17 ly_1 fX6_24 rfl (fun r17 => ?_)
    refine AW.iload_n (pc' := 21) dX6_come_20 rfl ?_
    first | refine AW.iastN (pc' := 22) dX6_come_21 ly_2 (by first | assumption | omega | (constructor <;> omega) | (simp only [Int.toNat_natCast]; omega) | exact b2_in _) (by decide) (by first | assumption | omega | (constructor <;> omega) | (simp only [Int.toNat_natCast]; omega) | exact b2_in _) ?_ | refine AW.iast (pc' := 22) dX6_come_21 ly_2 (by first | assumption | omega | (constructor <;> omega) | (simp only [Int.toNat_natCast]; omega) | exact b2_in _) (by first | assumption | omega | (constructor <;> omega) | (simp only [Int.toNat_natCast]; omega) | exact b2_in _) (by decide) (by first | assumption | omega | (constructor <;> omega) | (simp only [Int.toNat_natCast]; omega) | exact b2_in _) ?_
    refine AW.aload_n (pc' := 23) dX6_come_22 rfl ?_
    refine AW.getR (pc' := 26) dX6_come_23 ly_1 fX6_15 rfl ?_
    refine AW.aload_n (pc' := 27) dX6_come_26 rfl ?_
    refine AW.getI (pc' := 30) dX6_come_27 ly_1 fX6_24 rfl (fun r27 => ?_)
    try simp only [hset_app, Nat.reduceEqDiff, false_and, and_false, true_and, and_true, reduceIte] at r27 ⊢
    refine AW.iload_n (pc' := 31) dX6_come_30 rfl ?_
    first | refine AW.iastN (pc' := 32) dX6_come_31 ly_3 (by first | assumption | omega | (constructor <;> omega) | (simp only [Int.toNat_natCast]; omega) | exact b2_in _) (by decide) (by first | assumption | omega | (constructor <;> omega) | (simp only [Int.toNat_natCast]; omega) | exact b2_in _) ?_ | refine AW.iast (pc' := 32) dX6_come_31 ly_3 (by first | assumption | omega | (constructor <;> omega) | (simp only [Int.toNat_natCast]; omega) | exact b2_in _) (by first | assumption | omega | (constructor <;> omega) | (simp only [Int.toNat_natCast]; omega) | exact b2_in _) (by decide) (by first | assumption | omega | (constructor <;> omega) | (simp only [Int.toNat_natCast]; omega) | exact b2_in _) ?_
    refine AW.aload_n (pc' := 33) dX6_come_32 rfl ?_
    refine AW.getR (pc' := 36) dX6_come_33 ly_1 fX6_18 rfl ?_
    refine AW.aload_n (pc' := 37) dX6_come_36 rfl ?_
    refine AW.getI (pc' := 40) dX6_come_37 ly_1 fX6_24 rfl (fun r37 => ?_)
    try simp only [hset_app, Nat.reduceEqDiff, false_and, and_false, true_and, and_true, reduceIte] at r37 ⊢
    refine AW.iload_n (pc' := 41) dX6_come_40 rfl ?_
    first | refine AW.iastN (pc' := 42) dX6_come_41 ly_4 (by first | assumption | omega | (constructor <;> omega) | (simp only [Int.toNat_natCast]; omega) | exact b2_in _) (by decide) (by first | assumption | omega | (constructor <;> omega) | (simp only [Int.toNat_natCast]; omega) | exact b2_in _) ?_ | refine AW.iast (pc' := 42) dX6_come_41 ly_4 (by first | assumption | omega | (constructor <;> omega) | (simp only [Int.toNat_natCast]; omega) | exact b2_in _) (by first | assumption | omega | (constructor <;> omega) | (simp only [Int.toNat_natCast]; omega) | exact b2_in _) (by decide) (by first | assumption | omega | (constructor <;> omega) | (simp only [Int.toNat_natCast]; omega) | exact b2_in _) ?_
    refine AW.aload_n (pc' := 43) dX6_come_42 rfl ?_
    refine AW.getR (pc' := 46) dX6_come_43 ly_1 fX6_21 rfl ?_
    refine AW.aload_n (pc' := 47) dX6_come_46 rfl ?_
    refine AW.getI (pc' := 50) dX6_come_47 ly_1 fX6_24 rfl (fun r47 => ?_)
    try simp only [hset_app, Nat.reduceEqDiff, false_and, and_false, true_and, and_true, reduceIte] at r47 ⊢
    refine AW.iload (pc' := 52) dX6_come_50 rfl ?_
    first | refine AW.iastN (pc' := 53) dX6_come_52 ly_5 (by first | assumption | omega | (constructor <;> omega) | (simp only [Int.toNat_natCast]; omega) | exact b2_in _) (by decide) (by first | assumption | omega | (constructor <;> omega) | (simp only [Int.toNat_natCast]; omega) | exact b2_in _) ?_ | refine AW.iast (pc' := 53) dX6_come_52 ly_5 (by first | assumption | omega | (constructor <;> omega) | (simp only [Int.toNat_natCast]; omega) | exact b2_in _) (by first | assumption | omega | (constructor <;> omega) | (simp only [Int.toNat_natCast]; omega) | exact b2_in _) (by decide) (by first | assumption | omega | (constructor <;> omega) | (simp only [Int.toNat_natCast]; omega) | exact b2_in _) ?_
    refine AW.aload_n (pc' := 54) dX6_come_53 rfl ?_
    refine AW.dup (pc' := 55) dX6_come_54 rfl ?_
    refine AW.getI (pc' := 58) dX6_come_55 ly_1 fX6_24 rfl (fun r55 => ?_)
    try simp only [hset_app, Nat.reduceEqDiff, false_and, and_false, true_and, and_true, reduceIte] at r55 ⊢
    refine AW.dup_x1 (pc' := 59) dX6_come_58 rfl rfl ?_
    refine AW.iconst (pc' := 60) dX6_come_59 ?_
    refine AW.iadd (pc' := 61) dX6_come_60 ?_
    refine AW.putI (pc' := 64) dX6_come_61 ly_1 pX6_24 rfl (by first | assumption | omega | (constructor <;> omega) | (simp only [Int.toNat_natCast]; omega) | exact b2_in _) ?_
    refine AW.iret dX6_come_64 ?_ ?_
    all_goals first | rfl | exact congrArg (fun z : Int => (some (vI z) : Option AV)) (b2_t (by omega)) | exact congrArg (fun z : Int => (some (vI z) : Option AV)) (b2_f (by omega)) | ((repeat' split) <;> first | rfl | omega)
  · refine AW.bipush (pc' := 11) dX6_come_9 (by decide) ?_
    refine AW.iret dX6_come_11 ?_ ?_
    all_goals first | rfl | exact congrArg (fun z : Int => (some (vI z) : Option AV)) (b2_t (by omega)) | exact congrArg (fun z : Int => (some (vI z) : Option AV)) (b2_f (by omega)) | ((repeat' split) <;> first | rfl | omega)
set_option maxRecDepth 100000 in
set_option maxHeartbeats 4000000 in
theorem c_X9_come {K : KT} {dep : Nat} {h : Hp} {a b c : Int}  (q0 : 0 ≤ h 6 3) (q1 : inI a) (q2 : inI b) (q3 : inI c) : AM K yX9_come cX9_come 4 (some .int) dep [vR 6, vI a, vI b, vI c] h (some (vI (if 6 ≤ h 6 3 then -3 else h 6 3))) (if 6 ≤ h 6 3 then h else hset (hset (hset (hset h 7 (h 6 3).toNat a) 8 (h 6 3).toNat b) 9 (h 6 3).toNat c) 6 3 (h 6 3 + 1)) := by
  refine AM.of (own := RX9) (ls := [some (vR 6), some (vI a), some (vI b), some (vI c)]) rfl (by decide +kernel) (by exact Nat.le_of_ble_eq_true rfl) rfl (fun hO => ?_)
  refine AW.aload_n (pc' := 1) dX9_come_0 rfl ?_
  refine AW.getI (pc' := 4) dX9_come_1 ly_6 fX9_21 rfl (fun r1 => ?_)
  refine AW.bipush (pc' := 6) dX9_come_4 (by decide) ?_
  refine AW.icmp_lt (tgt := 12) (pc' := 9) dX9_come_6 (by first | assumption | omega | (constructor <;> omega) | (simp only [Int.toNat_natCast]; omega) | exact b2_in _) (by first | assumption | omega | (constructor <;> omega) | (simp only [Int.toNat_natCast]; omega) | exact b2_in _) (fun c6 => ?_) (fun c6 => ?_)
  · refine AW.aload_n (pc' := 13) dX9_come_12 rfl ?_
    refine AW.getR (pc' := 16) dX9_come_13 ly_6 fX9_9 rfl ?_
    refine AW.aload_n (pc' := 17) dX9_come_16 rfl ?_
    refine AW.getI (pc' := 20) dX9_come_17 ly_6 fX9_21 rfl (fun r17 => ?_)
    refine AW.iload_n (pc' := 21) dX9_come_20 rfl ?_
    first | refine AW.iastN (pc' := 22) dX9_come_21 ly_7 (by first | assumption | omega | (constructor <;> omega) | (simp only [Int.toNat_natCast]; omega) | exact b2_in _) (by decide) (by first | assumption | omega | (constructor <;> omega) | (simp only [Int.toNat_natCast]; omega) | exact b2_in _) ?_ | refine AW.iast (pc' := 22) dX9_come_21 ly_7 (by first | assumption | omega | (constructor <;> omega) | (simp only [Int.toNat_natCast]; omega) | exact b2_in _) (by first | assumption | omega | (constructor <;> omega) | (simp only [Int.toNat_natCast]; omega) | exact b2_in _) (by decide) (by first | assumption | omega | (constructor <;> omega) | (simp only [Int.toNat_natCast]; omega) | exact b2_in _) ?_
    refine AW.aload_n (pc' := 23) dX9_come_22 rfl ?_
    refine AW.getR (pc' := 26) dX9_come_23 ly_6 fX9_15 rfl ?_
    refine AW.aload_n (pc' := 27) dX9_come_26 rfl ?_
    refine AW.getI (pc' := 30) dX9_come_27 ly_6 fX9_21 rfl (fun r27 => ?_)
    try simp only [hset_app, Nat.reduceEqDiff, false_and, and_false, true_and, and_true, reduceIte] at r27 ⊢
    refine AW.iload_n (pc' := 31) dX9_come_30 rfl ?_
    first | refine AW.iastN (pc' := 32) dX9_come_31 ly_8 (by first | assumption | omega | (constructor <;> omega) | (simp only [Int.toNat_natCast]; omega) | exact b2_in _) (by decide) (by first | assumption | omega | (constructor <;> omega) | (simp only [Int.toNat_natCast]; omega) | exact b2_in _) ?_ | refine AW.iast (pc' := 32) dX9_come_31 ly_8 (by first | assumption | omega | (constructor <;> omega) | (simp only [Int.toNat_natCast]; omega) | exact b2_in _) (by first | assumption | omega | (constructor <;> omega) | (simp only [Int.toNat_natCast]; omega) | exact b2_in _) (by decide) (by first | assumption | omega | (constructor <;> omega) | (simp only [Int.toNat_natCast]; omega) | exact b2_in _) ?_
    refine AW.aload_n (pc' := 33) dX9_come_32 rfl ?_
    refine AW.getR (pc' := 36) dX9_come_33 ly_6 fX9_18 rfl ?_
    refine AW.aload_n (pc' := 37) dX9_come_36 rfl ?_
    refine AW.getI (pc' := 40) dX9_come_37 ly_6 fX9_21 rfl (fun r37 => ?_)
    try simp only [hset_app, Nat.reduceEqDiff, false_and, and_false, true_and, and_true, reduceIte] at r37 ⊢
    refine AW.iload_n (pc' := 41) dX9_come_40 rfl ?_
    first | refine AW.iastN (pc' := 42) dX9_come_41 ly_9 (by first | assumption | omega | (constructor <;> omega) | (simp only [Int.toNat_natCast]; omega) | exact b2_in _) (by decide) (by first | assumption | omega | (constructor <;> omega) | (simp only [Int.toNat_natCast]; omega) | exact b2_in _) ?_ | refine AW.iast (pc' := 42) dX9_come_41 ly_9 (by first | assumption | omega | (constructor <;> omega) | (simp only [Int.toNat_natCast]; omega) | exact b2_in _) (by first | assumption | omega | (constructor <;> omega) | (simp only [Int.toNat_natCast]; omega) | exact b2_in _) (by decide) (by first | assumption | omega | (constructor <;> omega) | (simp only [Int.toNat_natCast]; omega) | exact b2_in _) ?_
    refine AW.aload_n (pc' := 43) dX9_come_42 rfl ?_
    refine AW.dup (pc' := 44) dX9_come_43 rfl ?_
    refine AW.getI (pc' := 47) dX9_come_44 ly_6 fX9_21 rfl (fun r44 => ?_)
    try simp only [hset_app, Nat.reduceEqDiff, false_and, and_false, true_and, and_true, reduceIte] at r44 ⊢
    refine AW.dup_x1 (pc' := 48) dX9_come_47 rfl rfl ?_
    refine AW.iconst (pc' := 49) dX9_come_48 ?_
    refine AW.iadd (pc' := 50) dX9_come_49 ?_
    refine AW.putI (pc' := 53) dX9_come_50 ly_6 pX9_21 rfl (by first | assumption | omega | (constructor <;> omega) | (simp only [Int.toNat_natCast]; omega) | exact b2_in _) ?_
    refine AW.iret dX9_come_53 ?_ ?_
    all_goals first | rfl | exact congrArg (fun z : Int => (some (vI z) : Option AV)) (b2_t (by omega)) | exact congrArg (fun z : Int => (some (vI z) : Option AV)) (b2_f (by omega)) | ((repeat' split) <;> first | rfl | omega)
  · refine AW.bipush (pc' := 11) dX9_come_9 (by decide) ?_
    refine AW.iret dX9_come_11 ?_ ?_
    all_goals first | rfl | exact congrArg (fun z : Int => (some (vI z) : Option AV)) (b2_t (by omega)) | exact congrArg (fun z : Int => (some (vI z) : Option AV)) (b2_f (by omega)) | ((repeat' split) <;> first | rfl | omega)
set_option maxRecDepth 100000 in
set_option maxHeartbeats 4000000 in
theorem c_X4_come {K : KT} {dep : Nat} {h : Hp} {a : Int}  (q0 : 0 ≤ h 10 1) (q1 : inI a) : AM K yX4_come cX4_come 2 (some .int) dep [vR 10, vI a] h (some (vI (if 5 ≤ h 10 1 then -3 else h 10 1))) (if 5 ≤ h 10 1 then h else hset (hset h 11 (h 10 1).toNat a) 10 1 (h 10 1 + 1)) := by
  refine AM.of (own := RX4) (ls := [some (vR 10), some (vI a)]) rfl (by decide +kernel) (by exact Nat.le_of_ble_eq_true rfl) rfl (fun hO => ?_)
  refine AW.aload_n (pc' := 1) dX4_come_0 rfl ?_
  refine AW.getI (pc' := 4) dX4_come_1 ly_10 fX4_15 rfl (fun r1 => ?_)
  refine AW.iconst (pc' := 5) dX4_come_4 ?_
  refine AW.icmp_lt (tgt := 11) (pc' := 8) dX4_come_5 (by first | assumption | omega | (constructor <;> omega) | (simp only [Int.toNat_natCast]; omega) | exact b2_in _) (by first | assumption | omega | (constructor <;> omega) | (simp only [Int.toNat_natCast]; omega) | exact b2_in _) (fun c5 => ?_) (fun c5 => ?_)
  · refine AW.aload_n (pc' := 12) dX4_come_11 rfl ?_
    refine AW.getR (pc' := 15) dX4_come_12 ly_10 fX4_9 rfl ?_
    refine AW.aload_n (pc' := 16) dX4_come_15 rfl ?_
    refine AW.getI (pc' := 19) dX4_come_16 ly_10 fX4_15 rfl (fun r16 => ?_)
    refine AW.iload_n (pc' := 20) dX4_come_19 rfl ?_
    first | refine AW.iastN (pc' := 21) dX4_come_20 ly_11 (by first | assumption | omega | (constructor <;> omega) | (simp only [Int.toNat_natCast]; omega) | exact b2_in _) (by decide) (by first | assumption | omega | (constructor <;> omega) | (simp only [Int.toNat_natCast]; omega) | exact b2_in _) ?_ | refine AW.iast (pc' := 21) dX4_come_20 ly_11 (by first | assumption | omega | (constructor <;> omega) | (simp only [Int.toNat_natCast]; omega) | exact b2_in _) (by first | assumption | omega | (constructor <;> omega) | (simp only [Int.toNat_natCast]; omega) | exact b2_in _) (by decide) (by first | assumption | omega | (constructor <;> omega) | (simp only [Int.toNat_natCast]; omega) | exact b2_in _) ?_
    refine AW.aload_n (pc' := 22) dX4_come_21 rfl ?_
    refine AW.dup (pc' := 23) dX4_come_22 rfl ?_
    refine AW.getI (pc' := 26) dX4_come_23 ly_10 fX4_15 rfl (fun r23 => ?_)
    try simp only [hset_app, Nat.reduceEqDiff, false_and, and_false, true_and, and_true, reduceIte] at r23 ⊢
    refine AW.dup_x1 (pc' := 27) dX4_come_26 rfl rfl ?_
    refine AW.iconst (pc' := 28) dX4_come_27 ?_
    refine AW.iadd (pc' := 29) dX4_come_28 ?_
    refine AW.putI (pc' := 32) dX4_come_29 ly_10 pX4_15 rfl (by first | assumption | omega | (constructor <;> omega) | (simp only [Int.toNat_natCast]; omega) | exact b2_in _) ?_
    refine AW.iret dX4_come_32 ?_ ?_
    all_goals first | rfl | exact congrArg (fun z : Int => (some (vI z) : Option AV)) (b2_t (by omega)) | exact congrArg (fun z : Int => (some (vI z) : Option AV)) (b2_f (by omega)) | ((repeat' split) <;> first | rfl | omega)
  · refine AW.bipush (pc' := 10) dX4_come_8 (by decide) ?_
    refine AW.iret dX4_come_10 ?_ ?_
    all_goals first | rfl | exact congrArg (fun z : Int => (some (vI z) : Option AV)) (b2_t (by omega)) | exact congrArg (fun z : Int => (some (vI z) : Option AV)) (b2_f (by omega)) | ((repeat' split) <;> first | rfl | omega)
set_option maxRecDepth 100000 in
set_option maxHeartbeats 4000000 in
theorem c_X0_come {K : KT} {dep : Nat} {h : Hp} {a : Int}  (q0 : 0 ≤ h 43 2) (q1 : inI a) : AM K yX0_come cX0_come 2 (some .int) dep [vR 43, vI a] h (some (vI (if 50 ≤ h 43 2 then -3 else h 43 2))) (if 50 ≤ h 43 2 then h else hset (hset h 44 (h 43 2).toNat a) 43 2 (h 43 2 + 1)) := by
  refine AM.of (own := RX0) (ls := [some (vR 43), some (vI a)]) rfl (by decide +kernel) (by exact Nat.le_of_ble_eq_true rfl) rfl (fun hO => ?_)
  refine AW.aload_n (pc' := 1) dX0_come_0 rfl ?_
  refine AW.getI (pc' := 4) dX0_come_1 ly_43 fX0_18 rfl (fun r1 => ?_)
  refine AW.bipush (pc' := 6) dX0_come_4 (by decide) ?_
  refine AW.icmp_lt (tgt := 12) (pc' := 9) dX0_come_6 (by first | assumption | omega | (constructor <;> omega) | (simp only [Int.toNat_natCast]; omega) | exact b2_in _) (by first | assumption | omega | (constructor <;> omega) | (simp only [Int.toNat_natCast]; omega) | exact b2_in _) (fun c6 => ?_) (fun c6 => ?_)
  · refine AW.aload_n (pc' := 13) dX0_come_12 rfl ?_
    refine AW.getR (pc' := 16) dX0_come_13 ly_43 fX0_9 rfl ?_
    refine AW.aload_n (pc' := 17) dX0_come_16 rfl ?_
    refine AW.getI (pc' := 20) dX0_come_17 ly_43 fX0_18 rfl (fun r17 => ?_)
    refine AW.iload_n (pc' := 21) dX0_come_20 rfl ?_
    first | refine AW.iastN (pc' := 22) dX0_come_21 ly_44 (by first | assumption | omega | (constructor <;> omega) | (simp only [Int.toNat_natCast]; omega) | exact b2_in _) (by decide) (by first | assumption | omega | (constructor <;> omega) | (simp only [Int.toNat_natCast]; omega) | exact b2_in _) ?_ | refine AW.iast (pc' := 22) dX0_come_21 ly_44 (by first | assumption | omega | (constructor <;> omega) | (simp only [Int.toNat_natCast]; omega) | exact b2_in _) (by first | assumption | omega | (constructor <;> omega) | (simp only [Int.toNat_natCast]; omega) | exact b2_in _) (by decide) (by first | assumption | omega | (constructor <;> omega) | (simp only [Int.toNat_natCast]; omega) | exact b2_in _) ?_
    refine AW.aload_n (pc' := 23) dX0_come_22 rfl ?_
    refine AW.dup (pc' := 24) dX0_come_23 rfl ?_
    refine AW.getI (pc' := 27) dX0_come_24 ly_43 fX0_18 rfl (fun r24 => ?_)
    try simp only [hset_app, Nat.reduceEqDiff, false_and, and_false, true_and, and_true, reduceIte] at r24 ⊢
    refine AW.dup_x1 (pc' := 28) dX0_come_27 rfl rfl ?_
    refine AW.iconst (pc' := 29) dX0_come_28 ?_
    refine AW.iadd (pc' := 30) dX0_come_29 ?_
    refine AW.putI (pc' := 33) dX0_come_30 ly_43 pX0_18 rfl (by first | assumption | omega | (constructor <;> omega) | (simp only [Int.toNat_natCast]; omega) | exact b2_in _) ?_
    refine AW.iret dX0_come_33 ?_ ?_
    all_goals first | rfl | exact congrArg (fun z : Int => (some (vI z) : Option AV)) (b2_t (by omega)) | exact congrArg (fun z : Int => (some (vI z) : Option AV)) (b2_f (by omega)) | ((repeat' split) <;> first | rfl | omega)
  · refine AW.bipush (pc' := 11) dX0_come_9 (by decide) ?_
    refine AW.iret dX0_come_11 ?_ ?_
    all_goals first | rfl | exact congrArg (fun z : Int => (some (vI z) : Option AV)) (b2_t (by omega)) | exact congrArg (fun z : Int => (some (vI z) : Option AV)) (b2_f (by omega)) | ((repeat' split) <;> first | rfl | omega)
set_option maxRecDepth 100000 in
set_option maxHeartbeats 4000000 in
theorem c_X1_come {K : KT} {dep : Nat} {h : Hp} {a b : Int}  (q0 : 0 ≤ h 40 2) (q1 : inI a) (q2 : inI b) : AM K yX1_come cX1_come 3 (some .int) dep [vR 40, vI a, vI b] h (some (vI (if 6 ≤ h 40 2 then -3 else h 40 2 + 1))) (if 6 ≤ h 40 2 then h else hset (hset (hset h 41 (h 40 2).toNat a) 42 (h 40 2).toNat b) 40 2 (h 40 2 + 1)) := by
  refine AM.of (own := RX1) (ls := [some (vR 40), some (vI a), some (vI b)]) rfl (by decide +kernel) (by exact Nat.le_of_ble_eq_true rfl) rfl (fun hO => ?_)
  refine AW.aload_n (pc' := 1) dX1_come_0 rfl ?_
  refine AW.getI (pc' := 4) dX1_come_1 ly_40 fX1_18 rfl (fun r1 => ?_)
  refine AW.bipush (pc' := 6) dX1_come_4 (by decide) ?_
  refine AW.icmp_lt (tgt := 12) (pc' := 9) dX1_come_6 (by first | assumption | omega | (constructor <;> omega) | (simp only [Int.toNat_natCast]; omega) | exact b2_in _) (by first | assumption | omega | (constructor <;> omega) | (simp only [Int.toNat_natCast]; omega) | exact b2_in _) (fun c6 => ?_) (fun c6 => ?_)
  · refine AW.aload_n (pc' := 13) dX1_come_12 rfl ?_
    refine AW.getR (pc' := 16) dX1_come_13 ly_40 fX1_9 rfl ?_
    refine AW.aload_n (pc' := 17) dX1_come_16 rfl ?_
    refine AW.getI (pc' := 20) dX1_come_17 ly_40 fX1_18 rfl (fun r17 => ?_)
    refine AW.iload_n (pc' := 21) dX1_come_20 rfl ?_
    first | refine AW.iastN (pc' := 22) dX1_come_21 ly_41 (by first | assumption | omega | (constructor <;> omega) | (simp only [Int.toNat_natCast]; omega) | exact b2_in _) (by decide) (by first | assumption | omega | (constructor <;> omega) | (simp only [Int.toNat_natCast]; omega) | exact b2_in _) ?_ | refine AW.iast (pc' := 22) dX1_come_21 ly_41 (by first | assumption | omega | (constructor <;> omega) | (simp only [Int.toNat_natCast]; omega) | exact b2_in _) (by first | assumption | omega | (constructor <;> omega) | (simp only [Int.toNat_natCast]; omega) | exact b2_in _) (by decide) (by first | assumption | omega | (constructor <;> omega) | (simp only [Int.toNat_natCast]; omega) | exact b2_in _) ?_
    refine AW.aload_n (pc' := 23) dX1_come_22 rfl ?_
    refine AW.getR (pc' := 26) dX1_come_23 ly_40 fX1_15 rfl ?_
    refine AW.aload_n (pc' := 27) dX1_come_26 rfl ?_
    refine AW.getI (pc' := 30) dX1_come_27 ly_40 fX1_18 rfl (fun r27 => ?_)
    try simp only [hset_app, Nat.reduceEqDiff, false_and, and_false, true_and, and_true, reduceIte] at r27 ⊢
    refine AW.iload_n (pc' := 31) dX1_come_30 rfl ?_
    first | refine AW.iastN (pc' := 32) dX1_come_31 ly_42 (by first | assumption | omega | (constructor <;> omega) | (simp only [Int.toNat_natCast]; omega) | exact b2_in _) (by decide) (by first | assumption | omega | (constructor <;> omega) | (simp only [Int.toNat_natCast]; omega) | exact b2_in _) ?_ | refine AW.iast (pc' := 32) dX1_come_31 ly_42 (by first | assumption | omega | (constructor <;> omega) | (simp only [Int.toNat_natCast]; omega) | exact b2_in _) (by first | assumption | omega | (constructor <;> omega) | (simp only [Int.toNat_natCast]; omega) | exact b2_in _) (by decide) (by first | assumption | omega | (constructor <;> omega) | (simp only [Int.toNat_natCast]; omega) | exact b2_in _) ?_
    refine AW.aload_n (pc' := 33) dX1_come_32 rfl ?_
    refine AW.dup (pc' := 34) dX1_come_33 rfl ?_
    refine AW.getI (pc' := 37) dX1_come_34 ly_40 fX1_18 rfl (fun r34 => ?_)
    try simp only [hset_app, Nat.reduceEqDiff, false_and, and_false, true_and, and_true, reduceIte] at r34 ⊢
    refine AW.iconst (pc' := 38) dX1_come_37 ?_
    refine AW.iadd (pc' := 39) dX1_come_38 ?_
    refine AW.putI (pc' := 42) dX1_come_39 ly_40 pX1_18 rfl (by first | assumption | omega | (constructor <;> omega) | (simp only [Int.toNat_natCast]; omega) | exact b2_in _) ?_
    refine AW.aload_n (pc' := 43) dX1_come_42 rfl ?_
    refine AW.getI (pc' := 46) dX1_come_43 ly_40 fX1_18 rfl (fun r43 => ?_)
    try simp only [hset_app, Nat.reduceEqDiff, false_and, and_false, true_and, and_true, reduceIte] at r43 ⊢
    refine AW.iret dX1_come_46 ?_ ?_
    all_goals first | rfl | exact congrArg (fun z : Int => (some (vI z) : Option AV)) (b2_t (by omega)) | exact congrArg (fun z : Int => (some (vI z) : Option AV)) (b2_f (by omega)) | ((repeat' split) <;> first | rfl | omega)
  · refine AW.bipush (pc' := 11) dX1_come_9 (by decide) ?_
    refine AW.iret dX1_come_11 ?_ ?_
    all_goals first | rfl | exact congrArg (fun z : Int => (some (vI z) : Option AV)) (b2_t (by omega)) | exact congrArg (fun z : Int => (some (vI z) : Option AV)) (b2_f (by omega)) | ((repeat' split) <;> first | rfl | omega)
set_option maxRecDepth 100000 in
set_option maxHeartbeats 4000000 in
theorem c_X1_rises {K : KT} {dep : Nat} {h : Hp} {a : Int}  (q0 : 0 ≤ h 40 2 ∧ h 40 2 ≤ 6) (q1 : inI a) : AM K yX1_rises cX1_rises 2 (some .boolean) dep [vR 40, vI a] h (some (vI (b2 (h 40 2 = 0 ∨ h 41 (h 40 2 - 1).toNat < a)))) (h) := by
  refine AM.of (own := RX1) (ls := [some (vR 40), some (vI a)]) rfl (by decide +kernel) (by exact Nat.le_of_ble_eq_true rfl) rfl (fun hO => ?_)
  refine AW.aload_n (pc' := 1) dX1_rises_0 rfl ?_
  refine AW.getI (pc' := 4) dX1_rises_1 ly_40 fX1_18 rfl (fun r1 => ?_)
  refine AW.if_eq (tgt := 22) (pc' := 7) dX1_rises_4 (by first | assumption | omega | (constructor <;> omega) | (simp only [Int.toNat_natCast]; omega) | exact b2_in _) (fun c4 => ?_) (fun c4 => ?_)
  · refine AW.iconst (pc' := 23) dX1_rises_22 ?_
    refine AW.goto (tgt := 27) dX1_rises_23 ?_
    refine AW.zret dX1_rises_27 ?_ ?_ (by first | exact Or.inl rfl | exact Or.inr rfl | exact b2_01 _ | assumption | (subst_vars; omega))
    all_goals first | rfl | exact congrArg (fun z : Int => (some (vI z) : Option AV)) (b2_t (by omega)) | exact congrArg (fun z : Int => (some (vI z) : Option AV)) (b2_f (by omega)) | ((repeat' split) <;> first | rfl | omega)
  · refine AW.iload_n (pc' := 8) dX1_rises_7 rfl ?_
    refine AW.aload_n (pc' := 9) dX1_rises_8 rfl ?_
    refine AW.getR (pc' := 12) dX1_rises_9 ly_40 fX1_9 rfl ?_
    refine AW.aload_n (pc' := 13) dX1_rises_12 rfl ?_
    refine AW.getI (pc' := 16) dX1_rises_13 ly_40 fX1_18 rfl (fun r13 => ?_)
    refine AW.iconst (pc' := 17) dX1_rises_16 ?_
    refine AW.isub (pc' := 18) dX1_rises_17 ?_
    first | refine AW.ialdN (pc' := 19) dX1_rises_18 ly_41 (by first | assumption | omega | (constructor <;> omega) | (simp only [Int.toNat_natCast]; omega) | exact b2_in _) (by decide) (fun r18 => ?_) | refine AW.iald (pc' := 19) dX1_rises_18 ly_41 (by first | assumption | omega | (constructor <;> omega) | (simp only [Int.toNat_natCast]; omega) | exact b2_in _) (by first | assumption | omega | (constructor <;> omega) | (simp only [Int.toNat_natCast]; omega) | exact b2_in _) (by decide) (fun r18 => ?_)
    refine AW.icmp_le (tgt := 26) (pc' := 22) dX1_rises_19 (by first | assumption | omega | (constructor <;> omega) | (simp only [Int.toNat_natCast]; omega) | exact b2_in _) (by first | assumption | omega | (constructor <;> omega) | (simp only [Int.toNat_natCast]; omega) | exact b2_in _) (fun c19 => ?_) (fun c19 => ?_)
    · refine AW.iconst (pc' := 27) dX1_rises_26 ?_
      refine AW.zret dX1_rises_27 ?_ ?_ (by first | exact Or.inl rfl | exact Or.inr rfl | exact b2_01 _ | assumption | (subst_vars; omega))
      all_goals first | rfl | exact congrArg (fun z : Int => (some (vI z) : Option AV)) (b2_t (by omega)) | exact congrArg (fun z : Int => (some (vI z) : Option AV)) (b2_f (by omega)) | ((repeat' split) <;> first | rfl | omega)
    · refine AW.iconst (pc' := 23) dX1_rises_22 ?_
      refine AW.goto (tgt := 27) dX1_rises_23 ?_
      refine AW.zret dX1_rises_27 ?_ ?_ (by first | exact Or.inl rfl | exact Or.inr rfl | exact b2_01 _ | assumption | (subst_vars; omega))
      all_goals first | rfl | exact congrArg (fun z : Int => (some (vI z) : Option AV)) (b2_t (by omega)) | exact congrArg (fun z : Int => (some (vI z) : Option AV)) (b2_f (by omega)) | ((repeat' split) <;> first | rfl | omega)
set_option maxRecDepth 100000 in
set_option maxHeartbeats 4000000 in
theorem c_X8_reaches {K : KT} {dep : Nat} {h : Hp} {a b c : Int}  (q0 : 0 ≤ a ∧ a < 6) (q1 : inI b) (q2 : inI c) : AM K yX8_reaches cX8_reaches 4 (some .boolean) dep [vR 46, vI a, vI b, vI c] h (some (vI (b2 (0 ≤ b ∧ 0 ≤ c ∧ b + c ≤ h 49 a.toNat)))) (h) := by
  refine AM.of (own := RX8) (ls := [some (vR 46), some (vI a), some (vI b), some (vI c)]) rfl (by decide +kernel) (by exact Nat.le_of_ble_eq_true rfl) rfl (fun hO => ?_)
  refine AW.iload_n (pc' := 1) dX8_reaches_0 rfl ?_
  refine AW.if_lt (tgt := 28) (pc' := 4) dX8_reaches_1 (by first | assumption | omega | (constructor <;> omega) | (simp only [Int.toNat_natCast]; omega) | exact b2_in _) (fun c1 => ?_) (fun c1 => ?_)
  · refine AW.iconst (pc' := 29) dX8_reaches_28 ?_
    refine AW.zret dX8_reaches_29 ?_ ?_ (by first | exact Or.inl rfl | exact Or.inr rfl | exact b2_01 _ | assumption | (subst_vars; omega))
    all_goals first | rfl | exact congrArg (fun z : Int => (some (vI z) : Option AV)) (b2_t (by omega)) | exact congrArg (fun z : Int => (some (vI z) : Option AV)) (b2_f (by omega)) | ((repeat' split) <;> first | rfl | omega)
  · refine AW.iload_n (pc' := 5) dX8_reaches_4 rfl ?_
    refine AW.if_lt (tgt := 28) (pc' := 8) dX8_reaches_5 (by first | assumption | omega | (constructor <;> omega) | (simp only [Int.toNat_natCast]; omega) | exact b2_in _) (fun c5 => ?_) (fun c5 => ?_)
    · refine AW.iconst (pc' := 29) dX8_reaches_28 ?_
      refine AW.zret dX8_reaches_29 ?_ ?_ (by first | exact Or.inl rfl | exact Or.inr rfl | exact b2_01 _ | assumption | (subst_vars; omega))
      all_goals first | rfl | exact congrArg (fun z : Int => (some (vI z) : Option AV)) (b2_t (by omega)) | exact congrArg (fun z : Int => (some (vI z) : Option AV)) (b2_f (by omega)) | ((repeat' split) <;> first | rfl | omega)
    · refine AW.iload_n (pc' := 9) dX8_reaches_8 rfl ?_
      refine AW.i2l (pc' := 10) dX8_reaches_9 (by first | assumption | omega | (constructor <;> omega) | (simp only [Int.toNat_natCast]; omega) | exact b2_in _) ?_
      refine AW.iload_n (pc' := 11) dX8_reaches_10 rfl ?_
      refine AW.i2l (pc' := 12) dX8_reaches_11 (by first | assumption | omega | (constructor <;> omega) | (simp only [Int.toNat_natCast]; omega) | exact b2_in _) ?_
      refine AW.ladd (pc' := 13) dX8_reaches_12 ?_
      refine AW.aload_n (pc' := 14) dX8_reaches_13 rfl ?_
      refine AW.getR (pc' := 17) dX8_reaches_14 ly_46 fX8_18 rfl ?_
      refine AW.iload_n (pc' := 18) dX8_reaches_17 rfl ?_
      first | refine AW.ialdN (pc' := 19) dX8_reaches_18 ly_49 (by first | assumption | omega | (constructor <;> omega) | (simp only [Int.toNat_natCast]; omega) | exact b2_in _) (by decide) (fun r18 => ?_) | refine AW.iald (pc' := 19) dX8_reaches_18 ly_49 (by first | assumption | omega | (constructor <;> omega) | (simp only [Int.toNat_natCast]; omega) | exact b2_in _) (by first | assumption | omega | (constructor <;> omega) | (simp only [Int.toNat_natCast]; omega) | exact b2_in _) (by decide) (fun r18 => ?_)
      refine AW.i2l (pc' := 20) dX8_reaches_19 (by first | assumption | omega | (constructor <;> omega) | (simp only [Int.toNat_natCast]; omega) | exact b2_in _) ?_
      refine AW.lcmp (pc' := 21) dX8_reaches_20 (by first | assumption | omega | (constructor <;> omega) | (simp only [Int.toNat_natCast]; omega) | exact b2_in _) (by first | assumption | omega | (constructor <;> omega) | (simp only [Int.toNat_natCast]; omega) | exact b2_in _) ?_
      refine AW.if_gt (tgt := 28) (pc' := 24) dX8_reaches_21 (cmpI_in _ _) (fun c21 => ?_) (fun c21 => ?_)
      · simp only [cmpI_lt, cmpI_le, cmpI_gt, cmpI_ge, cmpI_eq, cmpI_ne] at c21
        refine AW.iconst (pc' := 29) dX8_reaches_28 ?_
        refine AW.zret dX8_reaches_29 ?_ ?_ (by first | exact Or.inl rfl | exact Or.inr rfl | exact b2_01 _ | assumption | (subst_vars; omega))
        all_goals first | rfl | exact congrArg (fun z : Int => (some (vI z) : Option AV)) (b2_t (by omega)) | exact congrArg (fun z : Int => (some (vI z) : Option AV)) (b2_f (by omega)) | ((repeat' split) <;> first | rfl | omega)
      · simp only [cmpI_lt, cmpI_le, cmpI_gt, cmpI_ge, cmpI_eq, cmpI_ne] at c21
        refine AW.iconst (pc' := 25) dX8_reaches_24 ?_
        refine AW.goto (tgt := 29) dX8_reaches_25 ?_
        refine AW.zret dX8_reaches_29 ?_ ?_ (by first | exact Or.inl rfl | exact Or.inr rfl | exact b2_01 _ | assumption | (subst_vars; omega))
        all_goals first | rfl | exact congrArg (fun z : Int => (some (vI z) : Option AV)) (b2_t (by omega)) | exact congrArg (fun z : Int => (some (vI z) : Option AV)) (b2_f (by omega)) | ((repeat' split) <;> first | rfl | omega)
set_option maxRecDepth 100000 in
set_option maxHeartbeats 4000000 in
theorem c_X8_hold {K : KT} {dep : Nat} {h : Hp} {a b : Int}  (q0 : 0 ≤ a ∧ a < 6) (q1 : inI b) : AM K yX8_hold cX8_hold 3 none dep [vR 46, vI a, vI b] h none (hset (hset (hset h 47 a.toNat (if b = -1 then 6 else 5)) 48 a.toNat b) 49 a.toNat 0) := by
  refine AM.of (own := RX8) (ls := [some (vR 46), some (vI a), some (vI b)]) rfl (by decide +kernel) (by exact Nat.le_of_ble_eq_true rfl) rfl (fun hO => ?_)
  refine AW.aload_n (pc' := 1) dX8_hold_0 rfl ?_
  refine AW.getR (pc' := 4) dX8_hold_1 ly_46 fX8_9 rfl ?_
  refine AW.iload_n (pc' := 5) dX8_hold_4 rfl ?_
  refine AW.iload_n (pc' := 6) dX8_hold_5 rfl ?_
  refine AW.iconst (pc' := 7) dX8_hold_6 ?_
  refine AW.icmp_ne (tgt := 15) (pc' := 10) dX8_hold_7 (by first | assumption | omega | (constructor <;> omega) | (simp only [Int.toNat_natCast]; omega) | exact b2_in _) (by first | assumption | omega | (constructor <;> omega) | (simp only [Int.toNat_natCast]; omega) | exact b2_in _) (fun c7 => ?_) (fun c7 => ?_)
  · refine AW.iconst (pc' := 16) dX8_hold_15 ?_
    first | refine AW.iastN (pc' := 17) dX8_hold_16 ly_47 (by first | assumption | omega | (constructor <;> omega) | (simp only [Int.toNat_natCast]; omega) | exact b2_in _) (by decide) (by first | assumption | omega | (constructor <;> omega) | (simp only [Int.toNat_natCast]; omega) | exact b2_in _) ?_ | refine AW.iast (pc' := 17) dX8_hold_16 ly_47 (by first | assumption | omega | (constructor <;> omega) | (simp only [Int.toNat_natCast]; omega) | exact b2_in _) (by first | assumption | omega | (constructor <;> omega) | (simp only [Int.toNat_natCast]; omega) | exact b2_in _) (by decide) (by first | assumption | omega | (constructor <;> omega) | (simp only [Int.toNat_natCast]; omega) | exact b2_in _) ?_
    refine AW.aload_n (pc' := 18) dX8_hold_17 rfl ?_
    refine AW.getR (pc' := 21) dX8_hold_18 ly_46 fX8_15 rfl ?_
    refine AW.iload_n (pc' := 22) dX8_hold_21 rfl ?_
    refine AW.iload_n (pc' := 23) dX8_hold_22 rfl ?_
    first | refine AW.iastN (pc' := 24) dX8_hold_23 ly_48 (by first | assumption | omega | (constructor <;> omega) | (simp only [Int.toNat_natCast]; omega) | exact b2_in _) (by decide) (by first | assumption | omega | (constructor <;> omega) | (simp only [Int.toNat_natCast]; omega) | exact b2_in _) ?_ | refine AW.iast (pc' := 24) dX8_hold_23 ly_48 (by first | assumption | omega | (constructor <;> omega) | (simp only [Int.toNat_natCast]; omega) | exact b2_in _) (by first | assumption | omega | (constructor <;> omega) | (simp only [Int.toNat_natCast]; omega) | exact b2_in _) (by decide) (by first | assumption | omega | (constructor <;> omega) | (simp only [Int.toNat_natCast]; omega) | exact b2_in _) ?_
    refine AW.aload_n (pc' := 25) dX8_hold_24 rfl ?_
    refine AW.getR (pc' := 28) dX8_hold_25 ly_46 fX8_18 rfl ?_
    refine AW.iload_n (pc' := 29) dX8_hold_28 rfl ?_
    refine AW.iconst (pc' := 30) dX8_hold_29 ?_
    first | refine AW.iastN (pc' := 31) dX8_hold_30 ly_49 (by first | assumption | omega | (constructor <;> omega) | (simp only [Int.toNat_natCast]; omega) | exact b2_in _) (by decide) (by first | assumption | omega | (constructor <;> omega) | (simp only [Int.toNat_natCast]; omega) | exact b2_in _) ?_ | refine AW.iast (pc' := 31) dX8_hold_30 ly_49 (by first | assumption | omega | (constructor <;> omega) | (simp only [Int.toNat_natCast]; omega) | exact b2_in _) (by first | assumption | omega | (constructor <;> omega) | (simp only [Int.toNat_natCast]; omega) | exact b2_in _) (by decide) (by first | assumption | omega | (constructor <;> omega) | (simp only [Int.toNat_natCast]; omega) | exact b2_in _) ?_
    refine AW.vret dX8_hold_31 ?_ ?_
    all_goals first | rfl | (simp only [if_pos, if_neg, *]; try rfl)
  · refine AW.bipush (pc' := 12) dX8_hold_10 (by decide) ?_
    refine AW.goto (tgt := 16) dX8_hold_12 ?_
    first | refine AW.iastN (pc' := 17) dX8_hold_16 ly_47 (by first | assumption | omega | (constructor <;> omega) | (simp only [Int.toNat_natCast]; omega) | exact b2_in _) (by decide) (by first | assumption | omega | (constructor <;> omega) | (simp only [Int.toNat_natCast]; omega) | exact b2_in _) ?_ | refine AW.iast (pc' := 17) dX8_hold_16 ly_47 (by first | assumption | omega | (constructor <;> omega) | (simp only [Int.toNat_natCast]; omega) | exact b2_in _) (by first | assumption | omega | (constructor <;> omega) | (simp only [Int.toNat_natCast]; omega) | exact b2_in _) (by decide) (by first | assumption | omega | (constructor <;> omega) | (simp only [Int.toNat_natCast]; omega) | exact b2_in _) ?_
    refine AW.aload_n (pc' := 18) dX8_hold_17 rfl ?_
    refine AW.getR (pc' := 21) dX8_hold_18 ly_46 fX8_15 rfl ?_
    refine AW.iload_n (pc' := 22) dX8_hold_21 rfl ?_
    refine AW.iload_n (pc' := 23) dX8_hold_22 rfl ?_
    first | refine AW.iastN (pc' := 24) dX8_hold_23 ly_48 (by first | assumption | omega | (constructor <;> omega) | (simp only [Int.toNat_natCast]; omega) | exact b2_in _) (by decide) (by first | assumption | omega | (constructor <;> omega) | (simp only [Int.toNat_natCast]; omega) | exact b2_in _) ?_ | refine AW.iast (pc' := 24) dX8_hold_23 ly_48 (by first | assumption | omega | (constructor <;> omega) | (simp only [Int.toNat_natCast]; omega) | exact b2_in _) (by first | assumption | omega | (constructor <;> omega) | (simp only [Int.toNat_natCast]; omega) | exact b2_in _) (by decide) (by first | assumption | omega | (constructor <;> omega) | (simp only [Int.toNat_natCast]; omega) | exact b2_in _) ?_
    refine AW.aload_n (pc' := 25) dX8_hold_24 rfl ?_
    refine AW.getR (pc' := 28) dX8_hold_25 ly_46 fX8_18 rfl ?_
    refine AW.iload_n (pc' := 29) dX8_hold_28 rfl ?_
    refine AW.iconst (pc' := 30) dX8_hold_29 ?_
    first | refine AW.iastN (pc' := 31) dX8_hold_30 ly_49 (by first | assumption | omega | (constructor <;> omega) | (simp only [Int.toNat_natCast]; omega) | exact b2_in _) (by decide) (by first | assumption | omega | (constructor <;> omega) | (simp only [Int.toNat_natCast]; omega) | exact b2_in _) ?_ | refine AW.iast (pc' := 31) dX8_hold_30 ly_49 (by first | assumption | omega | (constructor <;> omega) | (simp only [Int.toNat_natCast]; omega) | exact b2_in _) (by first | assumption | omega | (constructor <;> omega) | (simp only [Int.toNat_natCast]; omega) | exact b2_in _) (by decide) (by first | assumption | omega | (constructor <;> omega) | (simp only [Int.toNat_natCast]; omega) | exact b2_in _) ?_
    refine AW.vret dX8_hold_31 ?_ ?_
    all_goals first | rfl | (simp only [if_pos, if_neg, *]; try rfl)
set_option maxRecDepth 100000 in
set_option maxHeartbeats 4000000 in
theorem c_X10_clear {K : KT} {dep : Nat} {h : Hp}    : AM K yX10_clear cX10_clear 1 none dep [vR 39] h none (hset (hset (hset (hset h 39 0 0) 39 1 0) 39 2 0) 39 3 0) := by
  refine AM.of (own := RX10) (ls := [some (vR 39)]) rfl (by decide +kernel) (by exact Nat.le_of_ble_eq_true rfl) rfl (fun hO => ?_)
  refine AW.aload_n (pc' := 1) dX10_clear_0 rfl ?_
  refine AW.lconst_0 (pc' := 2) dX10_clear_1 ?_
  refine AW.putL (pc' := 5) dX10_clear_2 ly_39 pX10_9 rfl (by first | assumption | omega | (constructor <;> omega) | (simp only [Int.toNat_natCast]; omega) | exact b2_in _) ?_
  refine AW.aload_n (pc' := 6) dX10_clear_5 rfl ?_
  refine AW.lconst_0 (pc' := 7) dX10_clear_6 ?_
  refine AW.putL (pc' := 10) dX10_clear_7 ly_39 pX10_15 rfl (by first | assumption | omega | (constructor <;> omega) | (simp only [Int.toNat_natCast]; omega) | exact b2_in _) ?_
  refine AW.aload_n (pc' := 11) dX10_clear_10 rfl ?_
  refine AW.iconst (pc' := 12) dX10_clear_11 ?_
  refine AW.putI (pc' := 15) dX10_clear_12 ly_39 pX10_18 rfl (by first | assumption | omega | (constructor <;> omega) | (simp only [Int.toNat_natCast]; omega) | exact b2_in _) ?_
  refine AW.aload_n (pc' := 16) dX10_clear_15 rfl ?_
  refine AW.iconst (pc' := 17) dX10_clear_16 ?_
  refine AW.putI (pc' := 20) dX10_clear_17 ly_39 pX10_22 rfl (by first | assumption | omega | (constructor <;> omega) | (simp only [Int.toNat_natCast]; omega) | exact b2_in _) ?_
  refine AW.vret dX10_clear_20 ?_ ?_
  all_goals first | rfl | exact congrArg (fun z : Int => (some (vI z) : Option AV)) (b2_t (by omega)) | exact congrArg (fun z : Int => (some (vI z) : Option AV)) (b2_f (by omega)) | ((repeat' split) <;> first | rfl | omega)
set_option maxRecDepth 100000 in
set_option maxHeartbeats 4000000 in
theorem c_X10_add {K : KT} {dep : Nat} {h : Hp} {a : Int} {P : Prop} {dP : Decidable P}  (q0 : 0 ≤ a ∧ a ≤ 100000) (q1 : 0 ≤ h 39 1 ∧ h 39 1 ≤ 100000000 ∧ 0 ≤ h 39 0 ∧ h 39 0 ≤ 100000000) (q2 : 0 ≤ h 39 3 ∧ h 39 3 ≤ 1000 ∧ 0 ≤ h 39 2 ∧ h 39 2 ≤ 1000) : AM K yX10_add cX10_add 3 none dep [vR 39, vI a, vI (b2 P)] h none (if P then hset (hset h 39 1 (h 39 1 + a)) 39 3 (h 39 3 + 1) else hset (hset h 39 0 (h 39 0 + a)) 39 2 (h 39 2 + 1)) := by
  refine AM.of (own := RX10) (ls := [some (vR 39), some (vI a), some (vI (b2 P))]) rfl (by decide +kernel) (by exact Nat.le_of_ble_eq_true rfl) rfl (fun hO => ?_)
  refine AW.iload_n (pc' := 1) dX10_add_0 rfl ?_
  refine AW.ifb_eq (tgt := 28) (pc' := 4) dX10_add_1 (fun c1 => ?_) (fun c1 => ?_)
  · refine AW.aload_n (pc' := 29) dX10_add_28 rfl ?_
    refine AW.dup (pc' := 30) dX10_add_29 rfl ?_
    refine AW.getL (pc' := 33) dX10_add_30 ly_39 fX10_9 rfl (fun r30 => ?_)
    refine AW.iload_n (pc' := 34) dX10_add_33 rfl ?_
    refine AW.i2l (pc' := 35) dX10_add_34 (by first | assumption | omega | (constructor <;> omega) | (simp only [Int.toNat_natCast]; omega) | exact b2_in _) ?_
    refine AW.ladd (pc' := 36) dX10_add_35 ?_
    refine AW.putL (pc' := 39) dX10_add_36 ly_39 pX10_9 rfl (by first | assumption | omega | (constructor <;> omega) | (simp only [Int.toNat_natCast]; omega) | exact b2_in _) ?_
    refine AW.aload_n (pc' := 40) dX10_add_39 rfl ?_
    refine AW.dup (pc' := 41) dX10_add_40 rfl ?_
    refine AW.getI (pc' := 44) dX10_add_41 ly_39 fX10_18 rfl (fun r41 => ?_)
    try simp only [hset_app, Nat.reduceEqDiff, false_and, and_false, true_and, and_true, reduceIte] at r41 ⊢
    refine AW.iconst (pc' := 45) dX10_add_44 ?_
    refine AW.iadd (pc' := 46) dX10_add_45 ?_
    refine AW.putI (pc' := 49) dX10_add_46 ly_39 pX10_18 rfl (by first | assumption | omega | (constructor <;> omega) | (simp only [Int.toNat_natCast]; omega) | exact b2_in _) ?_
    refine AW.vret dX10_add_49 ?_ ?_
    all_goals first | rfl | (rw [if_pos (by assumption)]) | (rw [if_neg (by assumption)])
  · refine AW.aload_n (pc' := 5) dX10_add_4 rfl ?_
    refine AW.dup (pc' := 6) dX10_add_5 rfl ?_
    refine AW.getL (pc' := 9) dX10_add_6 ly_39 fX10_15 rfl (fun r6 => ?_)
    refine AW.iload_n (pc' := 10) dX10_add_9 rfl ?_
    refine AW.i2l (pc' := 11) dX10_add_10 (by first | assumption | omega | (constructor <;> omega) | (simp only [Int.toNat_natCast]; omega) | exact b2_in _) ?_
    refine AW.ladd (pc' := 12) dX10_add_11 ?_
    refine AW.putL (pc' := 15) dX10_add_12 ly_39 pX10_15 rfl (by first | assumption | omega | (constructor <;> omega) | (simp only [Int.toNat_natCast]; omega) | exact b2_in _) ?_
    refine AW.aload_n (pc' := 16) dX10_add_15 rfl ?_
    refine AW.dup (pc' := 17) dX10_add_16 rfl ?_
    refine AW.getI (pc' := 20) dX10_add_17 ly_39 fX10_22 rfl (fun r17 => ?_)
    try simp only [hset_app, Nat.reduceEqDiff, false_and, and_false, true_and, and_true, reduceIte] at r17 ⊢
    refine AW.iconst (pc' := 21) dX10_add_20 ?_
    refine AW.iadd (pc' := 22) dX10_add_21 ?_
    refine AW.putI (pc' := 25) dX10_add_22 ly_39 pX10_22 rfl (by first | assumption | omega | (constructor <;> omega) | (simp only [Int.toNat_natCast]; omega) | exact b2_in _) ?_
    refine AW.goto (tgt := 49) dX10_add_25 ?_
    refine AW.vret dX10_add_49 ?_ ?_
    all_goals first | rfl | (rw [if_pos (by assumption)]) | (rw [if_neg (by assumption)])
set_option maxRecDepth 100000 in
set_option maxHeartbeats 4000000 in
theorem c_X7_isOfRace {K : KT} {dep : Nat} {h : Hp} {a b c : Int}  (q0 : 0 ≤ a ∧ a < 120) (q1 : inI b) (q2 : inI c) : AM K yX7_isOfRace cX7_isOfRace 4 (some .boolean) dep [vR 12, vI a, vI b, vI c] h (some (vI (b2 (h 14 a.toNat = b ∧ h 15 a.toNat = c)))) (h) := by
  refine AM.of (own := RX7) (ls := [some (vR 12), some (vI a), some (vI b), some (vI c)]) rfl (by decide +kernel) (by exact Nat.le_of_ble_eq_true rfl) rfl (fun hO => ?_)
  refine AW.aload_n (pc' := 1) dX7_isOfRace_0 rfl ?_
  refine AW.getR (pc' := 4) dX7_isOfRace_1 ly_12 fX7_15 rfl ?_
  refine AW.iload_n (pc' := 5) dX7_isOfRace_4 rfl ?_
  first | refine AW.ialdN (pc' := 6) dX7_isOfRace_5 ly_14 (by first | assumption | omega | (constructor <;> omega) | (simp only [Int.toNat_natCast]; omega) | exact b2_in _) (by decide) (fun r5 => ?_) | refine AW.iald (pc' := 6) dX7_isOfRace_5 ly_14 (by first | assumption | omega | (constructor <;> omega) | (simp only [Int.toNat_natCast]; omega) | exact b2_in _) (by first | assumption | omega | (constructor <;> omega) | (simp only [Int.toNat_natCast]; omega) | exact b2_in _) (by decide) (fun r5 => ?_)
  refine AW.iload_n (pc' := 7) dX7_isOfRace_6 rfl ?_
  refine AW.icmp_ne (tgt := 24) (pc' := 10) dX7_isOfRace_7 (by first | assumption | omega | (constructor <;> omega) | (simp only [Int.toNat_natCast]; omega) | exact b2_in _) (by first | assumption | omega | (constructor <;> omega) | (simp only [Int.toNat_natCast]; omega) | exact b2_in _) (fun c7 => ?_) (fun c7 => ?_)
  · refine AW.iconst (pc' := 25) dX7_isOfRace_24 ?_
    refine AW.zret dX7_isOfRace_25 ?_ ?_ (by first | exact Or.inl rfl | exact Or.inr rfl | exact b2_01 _ | assumption | (subst_vars; omega))
    all_goals first | rfl | exact congrArg (fun z : Int => (some (vI z) : Option AV)) (b2_t (by omega)) | exact congrArg (fun z : Int => (some (vI z) : Option AV)) (b2_f (by omega)) | ((repeat' split) <;> first | rfl | omega)
  · refine AW.aload_n (pc' := 11) dX7_isOfRace_10 rfl ?_
    refine AW.getR (pc' := 14) dX7_isOfRace_11 ly_12 fX7_18 rfl ?_
    refine AW.iload_n (pc' := 15) dX7_isOfRace_14 rfl ?_
    first | refine AW.ialdN (pc' := 16) dX7_isOfRace_15 ly_15 (by first | assumption | omega | (constructor <;> omega) | (simp only [Int.toNat_natCast]; omega) | exact b2_in _) (by decide) (fun r15 => ?_) | refine AW.iald (pc' := 16) dX7_isOfRace_15 ly_15 (by first | assumption | omega | (constructor <;> omega) | (simp only [Int.toNat_natCast]; omega) | exact b2_in _) (by first | assumption | omega | (constructor <;> omega) | (simp only [Int.toNat_natCast]; omega) | exact b2_in _) (by decide) (fun r15 => ?_)
    refine AW.iload_n (pc' := 17) dX7_isOfRace_16 rfl ?_
    refine AW.icmp_ne (tgt := 24) (pc' := 20) dX7_isOfRace_17 (by first | assumption | omega | (constructor <;> omega) | (simp only [Int.toNat_natCast]; omega) | exact b2_in _) (by first | assumption | omega | (constructor <;> omega) | (simp only [Int.toNat_natCast]; omega) | exact b2_in _) (fun c17 => ?_) (fun c17 => ?_)
    · refine AW.iconst (pc' := 25) dX7_isOfRace_24 ?_
      refine AW.zret dX7_isOfRace_25 ?_ ?_ (by first | exact Or.inl rfl | exact Or.inr rfl | exact b2_01 _ | assumption | (subst_vars; omega))
      all_goals first | rfl | exact congrArg (fun z : Int => (some (vI z) : Option AV)) (b2_t (by omega)) | exact congrArg (fun z : Int => (some (vI z) : Option AV)) (b2_f (by omega)) | ((repeat' split) <;> first | rfl | omega)
    · refine AW.iconst (pc' := 21) dX7_isOfRace_20 ?_
      refine AW.goto (tgt := 25) dX7_isOfRace_21 ?_
      refine AW.zret dX7_isOfRace_25 ?_ ?_ (by first | exact Or.inl rfl | exact Or.inr rfl | exact b2_01 _ | assumption | (subst_vars; omega))
      all_goals first | rfl | exact congrArg (fun z : Int => (some (vI z) : Option AV)) (b2_t (by omega)) | exact congrArg (fun z : Int => (some (vI z) : Option AV)) (b2_f (by omega)) | ((repeat' split) <;> first | rfl | omega)
set_option maxRecDepth 100000 in
set_option maxHeartbeats 4000000 in
theorem c_X7_isSlower {K : KT} {dep : Nat} {h : Hp} {a b : Int}  (q0 : 0 ≤ a ∧ a < 120) (q1 : 0 ≤ b ∧ b < 120) : AM K yX7_isSlower cX7_isSlower 3 (some .boolean) dep [vR 12, vI a, vI b] h (some (vI (b2 (h 15 a.toNat = h 15 b.toNat ∧ h 16 b.toNat < h 16 a.toNat)))) (h) := by
  refine AM.of (own := RX7) (ls := [some (vR 12), some (vI a), some (vI b)]) rfl (by decide +kernel) (by exact Nat.le_of_ble_eq_true rfl) rfl (fun hO => ?_)
  refine AW.aload_n (pc' := 1) dX7_isSlower_0 rfl ?_
  refine AW.getR (pc' := 4) dX7_isSlower_1 ly_12 fX7_18 rfl ?_
  refine AW.iload_n (pc' := 5) dX7_isSlower_4 rfl ?_
  first | refine AW.ialdN (pc' := 6) dX7_isSlower_5 ly_15 (by first | assumption | omega | (constructor <;> omega) | (simp only [Int.toNat_natCast]; omega) | exact b2_in _) (by decide) (fun r5 => ?_) | refine AW.iald (pc' := 6) dX7_isSlower_5 ly_15 (by first | assumption | omega | (constructor <;> omega) | (simp only [Int.toNat_natCast]; omega) | exact b2_in _) (by first | assumption | omega | (constructor <;> omega) | (simp only [Int.toNat_natCast]; omega) | exact b2_in _) (by decide) (fun r5 => ?_)
  refine AW.aload_n (pc' := 7) dX7_isSlower_6 rfl ?_
  refine AW.getR (pc' := 10) dX7_isSlower_7 ly_12 fX7_18 rfl ?_
  refine AW.iload_n (pc' := 11) dX7_isSlower_10 rfl ?_
  first | refine AW.ialdN (pc' := 12) dX7_isSlower_11 ly_15 (by first | assumption | omega | (constructor <;> omega) | (simp only [Int.toNat_natCast]; omega) | exact b2_in _) (by decide) (fun r11 => ?_) | refine AW.iald (pc' := 12) dX7_isSlower_11 ly_15 (by first | assumption | omega | (constructor <;> omega) | (simp only [Int.toNat_natCast]; omega) | exact b2_in _) (by first | assumption | omega | (constructor <;> omega) | (simp only [Int.toNat_natCast]; omega) | exact b2_in _) (by decide) (fun r11 => ?_)
  refine AW.icmp_ne (tgt := 34) (pc' := 15) dX7_isSlower_12 (by first | assumption | omega | (constructor <;> omega) | (simp only [Int.toNat_natCast]; omega) | exact b2_in _) (by first | assumption | omega | (constructor <;> omega) | (simp only [Int.toNat_natCast]; omega) | exact b2_in _) (fun c12 => ?_) (fun c12 => ?_)
  · refine AW.iconst (pc' := 35) dX7_isSlower_34 ?_
    refine AW.zret dX7_isSlower_35 ?_ ?_ (by first | exact Or.inl rfl | exact Or.inr rfl | exact b2_01 _ | assumption | (subst_vars; omega))
    all_goals first | rfl | exact congrArg (fun z : Int => (some (vI z) : Option AV)) (b2_t (by omega)) | exact congrArg (fun z : Int => (some (vI z) : Option AV)) (b2_f (by omega)) | ((repeat' split) <;> first | rfl | omega)
  · refine AW.aload_n (pc' := 16) dX7_isSlower_15 rfl ?_
    refine AW.getR (pc' := 19) dX7_isSlower_16 ly_12 fX7_21 rfl ?_
    refine AW.iload_n (pc' := 20) dX7_isSlower_19 rfl ?_
    first | refine AW.ialdN (pc' := 21) dX7_isSlower_20 ly_16 (by first | assumption | omega | (constructor <;> omega) | (simp only [Int.toNat_natCast]; omega) | exact b2_in _) (by decide) (fun r20 => ?_) | refine AW.iald (pc' := 21) dX7_isSlower_20 ly_16 (by first | assumption | omega | (constructor <;> omega) | (simp only [Int.toNat_natCast]; omega) | exact b2_in _) (by first | assumption | omega | (constructor <;> omega) | (simp only [Int.toNat_natCast]; omega) | exact b2_in _) (by decide) (fun r20 => ?_)
    refine AW.aload_n (pc' := 22) dX7_isSlower_21 rfl ?_
    refine AW.getR (pc' := 25) dX7_isSlower_22 ly_12 fX7_21 rfl ?_
    refine AW.iload_n (pc' := 26) dX7_isSlower_25 rfl ?_
    first | refine AW.ialdN (pc' := 27) dX7_isSlower_26 ly_16 (by first | assumption | omega | (constructor <;> omega) | (simp only [Int.toNat_natCast]; omega) | exact b2_in _) (by decide) (fun r26 => ?_) | refine AW.iald (pc' := 27) dX7_isSlower_26 ly_16 (by first | assumption | omega | (constructor <;> omega) | (simp only [Int.toNat_natCast]; omega) | exact b2_in _) (by first | assumption | omega | (constructor <;> omega) | (simp only [Int.toNat_natCast]; omega) | exact b2_in _) (by decide) (fun r26 => ?_)
    refine AW.icmp_le (tgt := 34) (pc' := 30) dX7_isSlower_27 (by first | assumption | omega | (constructor <;> omega) | (simp only [Int.toNat_natCast]; omega) | exact b2_in _) (by first | assumption | omega | (constructor <;> omega) | (simp only [Int.toNat_natCast]; omega) | exact b2_in _) (fun c27 => ?_) (fun c27 => ?_)
    · refine AW.iconst (pc' := 35) dX7_isSlower_34 ?_
      refine AW.zret dX7_isSlower_35 ?_ ?_ (by first | exact Or.inl rfl | exact Or.inr rfl | exact b2_01 _ | assumption | (subst_vars; omega))
      all_goals first | rfl | exact congrArg (fun z : Int => (some (vI z) : Option AV)) (b2_t (by omega)) | exact congrArg (fun z : Int => (some (vI z) : Option AV)) (b2_f (by omega)) | ((repeat' split) <;> first | rfl | omega)
    · refine AW.iconst (pc' := 31) dX7_isSlower_30 ?_
      refine AW.goto (tgt := 35) dX7_isSlower_31 ?_
      refine AW.zret dX7_isSlower_35 ?_ ?_ (by first | exact Or.inl rfl | exact Or.inr rfl | exact b2_01 _ | assumption | (subst_vars; omega))
      all_goals first | rfl | exact congrArg (fun z : Int => (some (vI z) : Option AV)) (b2_t (by omega)) | exact congrArg (fun z : Int => (some (vI z) : Option AV)) (b2_f (by omega)) | ((repeat' split) <;> first | rfl | omega)
set_option maxRecDepth 100000 in
set_option maxHeartbeats 4000000 in
theorem c_X7_isBehindR {K : KT} {dep : Nat} {h : Hp} {a b : Int}  (q0 : 0 ≤ a ∧ a < 120) (q1 : 0 ≤ b ∧ b < 120) : AM K yX7_isBehind cX7_isBehind 4 (some .boolean) dep [vR 12, vI a, vI b, vR 13] h (some (vI (b2 (h 13 b.toNat < h 13 a.toNat ∨ h 13 a.toNat = h 13 b.toNat ∧ h 15 b.toNat < h 15 a.toNat)))) (h) := by
  refine AM.of (own := RX7) (ls := [some (vR 12), some (vI a), some (vI b), some (vR 13)]) rfl (by decide +kernel) (by exact Nat.le_of_ble_eq_true rfl) rfl (fun hO => ?_)
  refine AW.aload_n (pc' := 1) dX7_isBehind_0 rfl ?_
  refine AW.iload_n (pc' := 2) dX7_isBehind_1 rfl ?_
  first | refine AW.ialdN (pc' := 3) dX7_isBehind_2 ly_13 (by first | assumption | omega | (constructor <;> omega) | (simp only [Int.toNat_natCast]; omega) | exact b2_in _) (by decide) (fun r2 => ?_) | refine AW.iald (pc' := 3) dX7_isBehind_2 ly_13 (by first | assumption | omega | (constructor <;> omega) | (simp only [Int.toNat_natCast]; omega) | exact b2_in _) (by first | assumption | omega | (constructor <;> omega) | (simp only [Int.toNat_natCast]; omega) | exact b2_in _) (by decide) (fun r2 => ?_)
  refine AW.aload_n (pc' := 4) dX7_isBehind_3 rfl ?_
  refine AW.iload_n (pc' := 5) dX7_isBehind_4 rfl ?_
  first | refine AW.ialdN (pc' := 6) dX7_isBehind_5 ly_13 (by first | assumption | omega | (constructor <;> omega) | (simp only [Int.toNat_natCast]; omega) | exact b2_in _) (by decide) (fun r5 => ?_) | refine AW.iald (pc' := 6) dX7_isBehind_5 ly_13 (by first | assumption | omega | (constructor <;> omega) | (simp only [Int.toNat_natCast]; omega) | exact b2_in _) (by first | assumption | omega | (constructor <;> omega) | (simp only [Int.toNat_natCast]; omega) | exact b2_in _) (by decide) (fun r5 => ?_)
  refine AW.icmp_eq (tgt := 24) (pc' := 9) dX7_isBehind_6 (by first | assumption | omega | (constructor <;> omega) | (simp only [Int.toNat_natCast]; omega) | exact b2_in _) (by first | assumption | omega | (constructor <;> omega) | (simp only [Int.toNat_natCast]; omega) | exact b2_in _) (fun c6 => ?_) (fun c6 => ?_)
  · refine AW.aload_n (pc' := 25) dX7_isBehind_24 rfl ?_
    refine AW.getR (pc' := 28) dX7_isBehind_25 ly_12 fX7_18 rfl ?_
    refine AW.iload_n (pc' := 29) dX7_isBehind_28 rfl ?_
    first | refine AW.ialdN (pc' := 30) dX7_isBehind_29 ly_15 (by first | assumption | omega | (constructor <;> omega) | (simp only [Int.toNat_natCast]; omega) | exact b2_in _) (by decide) (fun r29 => ?_) | refine AW.iald (pc' := 30) dX7_isBehind_29 ly_15 (by first | assumption | omega | (constructor <;> omega) | (simp only [Int.toNat_natCast]; omega) | exact b2_in _) (by first | assumption | omega | (constructor <;> omega) | (simp only [Int.toNat_natCast]; omega) | exact b2_in _) (by decide) (fun r29 => ?_)
    refine AW.aload_n (pc' := 31) dX7_isBehind_30 rfl ?_
    refine AW.getR (pc' := 34) dX7_isBehind_31 ly_12 fX7_18 rfl ?_
    refine AW.iload_n (pc' := 35) dX7_isBehind_34 rfl ?_
    first | refine AW.ialdN (pc' := 36) dX7_isBehind_35 ly_15 (by first | assumption | omega | (constructor <;> omega) | (simp only [Int.toNat_natCast]; omega) | exact b2_in _) (by decide) (fun r35 => ?_) | refine AW.iald (pc' := 36) dX7_isBehind_35 ly_15 (by first | assumption | omega | (constructor <;> omega) | (simp only [Int.toNat_natCast]; omega) | exact b2_in _) (by first | assumption | omega | (constructor <;> omega) | (simp only [Int.toNat_natCast]; omega) | exact b2_in _) (by decide) (fun r35 => ?_)
    refine AW.icmp_le (tgt := 43) (pc' := 39) dX7_isBehind_36 (by first | assumption | omega | (constructor <;> omega) | (simp only [Int.toNat_natCast]; omega) | exact b2_in _) (by first | assumption | omega | (constructor <;> omega) | (simp only [Int.toNat_natCast]; omega) | exact b2_in _) (fun c36 => ?_) (fun c36 => ?_)
    · refine AW.iconst (pc' := 44) dX7_isBehind_43 ?_
      refine AW.zret dX7_isBehind_44 ?_ ?_ (by first | exact Or.inl rfl | exact Or.inr rfl | exact b2_01 _ | assumption | (subst_vars; omega))
      all_goals first | rfl | exact congrArg (fun z : Int => (some (vI z) : Option AV)) (b2_t (by omega)) | exact congrArg (fun z : Int => (some (vI z) : Option AV)) (b2_f (by omega)) | ((repeat' split) <;> first | rfl | omega)
    · refine AW.iconst (pc' := 40) dX7_isBehind_39 ?_
      refine AW.goto (tgt := 44) dX7_isBehind_40 ?_
      refine AW.zret dX7_isBehind_44 ?_ ?_ (by first | exact Or.inl rfl | exact Or.inr rfl | exact b2_01 _ | assumption | (subst_vars; omega))
      all_goals first | rfl | exact congrArg (fun z : Int => (some (vI z) : Option AV)) (b2_t (by omega)) | exact congrArg (fun z : Int => (some (vI z) : Option AV)) (b2_f (by omega)) | ((repeat' split) <;> first | rfl | omega)
  · refine AW.aload_n (pc' := 10) dX7_isBehind_9 rfl ?_
    refine AW.iload_n (pc' := 11) dX7_isBehind_10 rfl ?_
    first | refine AW.ialdN (pc' := 12) dX7_isBehind_11 ly_13 (by first | assumption | omega | (constructor <;> omega) | (simp only [Int.toNat_natCast]; omega) | exact b2_in _) (by decide) (fun r11 => ?_) | refine AW.iald (pc' := 12) dX7_isBehind_11 ly_13 (by first | assumption | omega | (constructor <;> omega) | (simp only [Int.toNat_natCast]; omega) | exact b2_in _) (by first | assumption | omega | (constructor <;> omega) | (simp only [Int.toNat_natCast]; omega) | exact b2_in _) (by decide) (fun r11 => ?_)
    refine AW.aload_n (pc' := 13) dX7_isBehind_12 rfl ?_
    refine AW.iload_n (pc' := 14) dX7_isBehind_13 rfl ?_
    first | refine AW.ialdN (pc' := 15) dX7_isBehind_14 ly_13 (by first | assumption | omega | (constructor <;> omega) | (simp only [Int.toNat_natCast]; omega) | exact b2_in _) (by decide) (fun r14 => ?_) | refine AW.iald (pc' := 15) dX7_isBehind_14 ly_13 (by first | assumption | omega | (constructor <;> omega) | (simp only [Int.toNat_natCast]; omega) | exact b2_in _) (by first | assumption | omega | (constructor <;> omega) | (simp only [Int.toNat_natCast]; omega) | exact b2_in _) (by decide) (fun r14 => ?_)
    refine AW.icmp_le (tgt := 22) (pc' := 18) dX7_isBehind_15 (by first | assumption | omega | (constructor <;> omega) | (simp only [Int.toNat_natCast]; omega) | exact b2_in _) (by first | assumption | omega | (constructor <;> omega) | (simp only [Int.toNat_natCast]; omega) | exact b2_in _) (fun c15 => ?_) (fun c15 => ?_)
    · refine AW.iconst (pc' := 23) dX7_isBehind_22 ?_
      refine AW.zret dX7_isBehind_23 ?_ ?_ (by first | exact Or.inl rfl | exact Or.inr rfl | exact b2_01 _ | assumption | (subst_vars; omega))
      all_goals first | rfl | exact congrArg (fun z : Int => (some (vI z) : Option AV)) (b2_t (by omega)) | exact congrArg (fun z : Int => (some (vI z) : Option AV)) (b2_f (by omega)) | ((repeat' split) <;> first | rfl | omega)
    · refine AW.iconst (pc' := 19) dX7_isBehind_18 ?_
      refine AW.goto (tgt := 23) dX7_isBehind_19 ?_
      refine AW.zret dX7_isBehind_23 ?_ ?_ (by first | exact Or.inl rfl | exact Or.inr rfl | exact b2_01 _ | assumption | (subst_vars; omega))
      all_goals first | rfl | exact congrArg (fun z : Int => (some (vI z) : Option AV)) (b2_t (by omega)) | exact congrArg (fun z : Int => (some (vI z) : Option AV)) (b2_f (by omega)) | ((repeat' split) <;> first | rfl | omega)
set_option maxRecDepth 100000 in
set_option maxHeartbeats 4000000 in
theorem c_X7_isBehindC {K : KT} {dep : Nat} {h : Hp} {a b : Int}  (q0 : 0 ≤ a ∧ a < 120) (q1 : 0 ≤ b ∧ b < 120) : AM K yX7_isBehind cX7_isBehind 4 (some .boolean) dep [vR 12, vI a, vI b, vR 14] h (some (vI (b2 (h 14 b.toNat < h 14 a.toNat ∨ h 14 a.toNat = h 14 b.toNat ∧ h 15 b.toNat < h 15 a.toNat)))) (h) := by
  refine AM.of (own := RX7) (ls := [some (vR 12), some (vI a), some (vI b), some (vR 14)]) rfl (by decide +kernel) (by exact Nat.le_of_ble_eq_true rfl) rfl (fun hO => ?_)
  refine AW.aload_n (pc' := 1) dX7_isBehind_0 rfl ?_
  refine AW.iload_n (pc' := 2) dX7_isBehind_1 rfl ?_
  first | refine AW.ialdN (pc' := 3) dX7_isBehind_2 ly_14 (by first | assumption | omega | (constructor <;> omega) | (simp only [Int.toNat_natCast]; omega) | exact b2_in _) (by decide) (fun r2 => ?_) | refine AW.iald (pc' := 3) dX7_isBehind_2 ly_14 (by first | assumption | omega | (constructor <;> omega) | (simp only [Int.toNat_natCast]; omega) | exact b2_in _) (by first | assumption | omega | (constructor <;> omega) | (simp only [Int.toNat_natCast]; omega) | exact b2_in _) (by decide) (fun r2 => ?_)
  refine AW.aload_n (pc' := 4) dX7_isBehind_3 rfl ?_
  refine AW.iload_n (pc' := 5) dX7_isBehind_4 rfl ?_
  first | refine AW.ialdN (pc' := 6) dX7_isBehind_5 ly_14 (by first | assumption | omega | (constructor <;> omega) | (simp only [Int.toNat_natCast]; omega) | exact b2_in _) (by decide) (fun r5 => ?_) | refine AW.iald (pc' := 6) dX7_isBehind_5 ly_14 (by first | assumption | omega | (constructor <;> omega) | (simp only [Int.toNat_natCast]; omega) | exact b2_in _) (by first | assumption | omega | (constructor <;> omega) | (simp only [Int.toNat_natCast]; omega) | exact b2_in _) (by decide) (fun r5 => ?_)
  refine AW.icmp_eq (tgt := 24) (pc' := 9) dX7_isBehind_6 (by first | assumption | omega | (constructor <;> omega) | (simp only [Int.toNat_natCast]; omega) | exact b2_in _) (by first | assumption | omega | (constructor <;> omega) | (simp only [Int.toNat_natCast]; omega) | exact b2_in _) (fun c6 => ?_) (fun c6 => ?_)
  · refine AW.aload_n (pc' := 25) dX7_isBehind_24 rfl ?_
    refine AW.getR (pc' := 28) dX7_isBehind_25 ly_12 fX7_18 rfl ?_
    refine AW.iload_n (pc' := 29) dX7_isBehind_28 rfl ?_
    first | refine AW.ialdN (pc' := 30) dX7_isBehind_29 ly_15 (by first | assumption | omega | (constructor <;> omega) | (simp only [Int.toNat_natCast]; omega) | exact b2_in _) (by decide) (fun r29 => ?_) | refine AW.iald (pc' := 30) dX7_isBehind_29 ly_15 (by first | assumption | omega | (constructor <;> omega) | (simp only [Int.toNat_natCast]; omega) | exact b2_in _) (by first | assumption | omega | (constructor <;> omega) | (simp only [Int.toNat_natCast]; omega) | exact b2_in _) (by decide) (fun r29 => ?_)
    refine AW.aload_n (pc' := 31) dX7_isBehind_30 rfl ?_
    refine AW.getR (pc' := 34) dX7_isBehind_31 ly_12 fX7_18 rfl ?_
    refine AW.iload_n (pc' := 35) dX7_isBehind_34 rfl ?_
    first | refine AW.ialdN (pc' := 36) dX7_isBehind_35 ly_15 (by first | assumption | omega | (constructor <;> omega) | (simp only [Int.toNat_natCast]; omega) | exact b2_in _) (by decide) (fun r35 => ?_) | refine AW.iald (pc' := 36) dX7_isBehind_35 ly_15 (by first | assumption | omega | (constructor <;> omega) | (simp only [Int.toNat_natCast]; omega) | exact b2_in _) (by first | assumption | omega | (constructor <;> omega) | (simp only [Int.toNat_natCast]; omega) | exact b2_in _) (by decide) (fun r35 => ?_)
    refine AW.icmp_le (tgt := 43) (pc' := 39) dX7_isBehind_36 (by first | assumption | omega | (constructor <;> omega) | (simp only [Int.toNat_natCast]; omega) | exact b2_in _) (by first | assumption | omega | (constructor <;> omega) | (simp only [Int.toNat_natCast]; omega) | exact b2_in _) (fun c36 => ?_) (fun c36 => ?_)
    · refine AW.iconst (pc' := 44) dX7_isBehind_43 ?_
      refine AW.zret dX7_isBehind_44 ?_ ?_ (by first | exact Or.inl rfl | exact Or.inr rfl | exact b2_01 _ | assumption | (subst_vars; omega))
      all_goals first | rfl | exact congrArg (fun z : Int => (some (vI z) : Option AV)) (b2_t (by omega)) | exact congrArg (fun z : Int => (some (vI z) : Option AV)) (b2_f (by omega)) | ((repeat' split) <;> first | rfl | omega)
    · refine AW.iconst (pc' := 40) dX7_isBehind_39 ?_
      refine AW.goto (tgt := 44) dX7_isBehind_40 ?_
      refine AW.zret dX7_isBehind_44 ?_ ?_ (by first | exact Or.inl rfl | exact Or.inr rfl | exact b2_01 _ | assumption | (subst_vars; omega))
      all_goals first | rfl | exact congrArg (fun z : Int => (some (vI z) : Option AV)) (b2_t (by omega)) | exact congrArg (fun z : Int => (some (vI z) : Option AV)) (b2_f (by omega)) | ((repeat' split) <;> first | rfl | omega)
  · refine AW.aload_n (pc' := 10) dX7_isBehind_9 rfl ?_
    refine AW.iload_n (pc' := 11) dX7_isBehind_10 rfl ?_
    first | refine AW.ialdN (pc' := 12) dX7_isBehind_11 ly_14 (by first | assumption | omega | (constructor <;> omega) | (simp only [Int.toNat_natCast]; omega) | exact b2_in _) (by decide) (fun r11 => ?_) | refine AW.iald (pc' := 12) dX7_isBehind_11 ly_14 (by first | assumption | omega | (constructor <;> omega) | (simp only [Int.toNat_natCast]; omega) | exact b2_in _) (by first | assumption | omega | (constructor <;> omega) | (simp only [Int.toNat_natCast]; omega) | exact b2_in _) (by decide) (fun r11 => ?_)
    refine AW.aload_n (pc' := 13) dX7_isBehind_12 rfl ?_
    refine AW.iload_n (pc' := 14) dX7_isBehind_13 rfl ?_
    first | refine AW.ialdN (pc' := 15) dX7_isBehind_14 ly_14 (by first | assumption | omega | (constructor <;> omega) | (simp only [Int.toNat_natCast]; omega) | exact b2_in _) (by decide) (fun r14 => ?_) | refine AW.iald (pc' := 15) dX7_isBehind_14 ly_14 (by first | assumption | omega | (constructor <;> omega) | (simp only [Int.toNat_natCast]; omega) | exact b2_in _) (by first | assumption | omega | (constructor <;> omega) | (simp only [Int.toNat_natCast]; omega) | exact b2_in _) (by decide) (fun r14 => ?_)
    refine AW.icmp_le (tgt := 22) (pc' := 18) dX7_isBehind_15 (by first | assumption | omega | (constructor <;> omega) | (simp only [Int.toNat_natCast]; omega) | exact b2_in _) (by first | assumption | omega | (constructor <;> omega) | (simp only [Int.toNat_natCast]; omega) | exact b2_in _) (fun c15 => ?_) (fun c15 => ?_)
    · refine AW.iconst (pc' := 23) dX7_isBehind_22 ?_
      refine AW.zret dX7_isBehind_23 ?_ ?_ (by first | exact Or.inl rfl | exact Or.inr rfl | exact b2_01 _ | assumption | (subst_vars; omega))
      all_goals first | rfl | exact congrArg (fun z : Int => (some (vI z) : Option AV)) (b2_t (by omega)) | exact congrArg (fun z : Int => (some (vI z) : Option AV)) (b2_f (by omega)) | ((repeat' split) <;> first | rfl | omega)
    · refine AW.iconst (pc' := 19) dX7_isBehind_18 ?_
      refine AW.goto (tgt := 23) dX7_isBehind_19 ?_
      refine AW.zret dX7_isBehind_23 ?_ ?_ (by first | exact Or.inl rfl | exact Or.inr rfl | exact b2_01 _ | assumption | (subst_vars; omega))
      all_goals first | rfl | exact congrArg (fun z : Int => (some (vI z) : Option AV)) (b2_t (by omega)) | exact congrArg (fun z : Int => (some (vI z) : Option AV)) (b2_f (by omega)) | ((repeat' split) <;> first | rfl | omega)
set_option maxRecDepth 100000 in
set_option maxHeartbeats 4000000 in
theorem c_X7_isSeen {K : KT} {dep : Nat} {h : Hp} {a : Int} (hd : 1 ≤ dep) (q0 : 0 ≤ a ∧ a < 120) : AM K yX7_isSeen cX7_isSeen 2 (some .boolean) dep [vR 12, vI a] h (some (vI (b2 (0 ≤ h 17 a.toNat ∧ h 17 a.toNat < h 6 3)))) (h) := by
  refine AM.of (own := RX7) (ls := [some (vR 12), some (vI a)]) rfl (by decide +kernel) (by exact Nat.le_of_ble_eq_true rfl) rfl (fun hO => ?_)
  refine AW.aload_n (pc' := 1) dX7_isSeen_0 rfl ?_
  refine AW.getR (pc' := 4) dX7_isSeen_1 ly_12 fX7_36 rfl ?_
  refine AW.aload_n (pc' := 5) dX7_isSeen_4 rfl ?_
  refine AW.getR (pc' := 8) dX7_isSeen_5 ly_12 fX7_24 rfl ?_
  refine AW.iload_n (pc' := 9) dX7_isSeen_8 rfl ?_
  first | refine AW.ialdN (pc' := 10) dX7_isSeen_9 ly_17 (by first | assumption | omega | (constructor <;> omega) | (simp only [Int.toNat_natCast]; omega) | exact b2_in _) (by decide) (fun r9 => ?_) | refine AW.iald (pc' := 10) dX7_isSeen_9 ly_17 (by first | assumption | omega | (constructor <;> omega) | (simp only [Int.toNat_natCast]; omega) | exact b2_in _) (by first | assumption | omega | (constructor <;> omega) | (simp only [Int.toNat_natCast]; omega) | exact b2_in _) (by decide) (fun r9 => ?_)
  refine AW.invV1 (pc' := 13) dX7_isSeen_10 mlX7_56 mX9_has ly_6 rfl (c_X9_has (dep := dep - 1) (by first | assumption | omega | (constructor <;> omega) | (simp only [Int.toNat_natCast]; omega) | exact b2_in _)) ?_
  refine AW.zret dX7_isSeen_13 ?_ ?_ (by first | exact Or.inl rfl | exact Or.inr rfl | exact b2_01 _ | assumption | (subst_vars; omega))
  all_goals first | rfl | exact congrArg (fun z : Int => (some (vI z) : Option AV)) (b2_t (by omega)) | exact congrArg (fun z : Int => (some (vI z) : Option AV)) (b2_f (by omega)) | ((repeat' split) <;> first | rfl | omega)
set_option maxRecDepth 100000 in
set_option maxHeartbeats 4000000 in
theorem c_X7_isNew {K : KT} {dep : Nat} {h : Hp} {a : Int} (hd : 2 ≤ dep) (q0 : 0 ≤ a ∧ a < 120) (q1 : h 6 3 ≤ 6) : AM K yX7_isNew cX7_isNew 2 (some .boolean) dep [vR 12, vI a] h (some (vI (b2 (0 ≤ h 17 a.toNat ∧ h 17 a.toNat < h 6 3 ∧ 0 < h 8 (h 17 a.toNat).toNat)))) (h) := by
  refine AM.of (own := RX7) (ls := [some (vR 12), some (vI a)]) rfl (by decide +kernel) (by exact Nat.le_of_ble_eq_true rfl) rfl (fun hO => ?_)
  refine AW.aload_n (pc' := 1) dX7_isNew_0 rfl ?_
  refine AW.iload_n (pc' := 2) dX7_isNew_1 rfl ?_
  refine AW.invV1 (pc' := 5) dX7_isNew_2 mlX7_62 mX7_isSeen ly_12 rfl (c_X7_isSeen (dep := dep - 1) (by first | assumption | omega | (constructor <;> omega) | (simp only [Int.toNat_natCast]; omega) | exact b2_in _) (by first | assumption | omega | (constructor <;> omega) | (simp only [Int.toNat_natCast]; omega) | exact b2_in _)) ?_
  refine AW.ifb_eq (tgt := 29) (pc' := 8) dX7_isNew_5 (fun c5 => ?_) (fun c5 => ?_)
  · refine AW.iconst (pc' := 30) dX7_isNew_29 ?_
    refine AW.zret dX7_isNew_30 ?_ ?_ (by first | exact Or.inl rfl | exact Or.inr rfl | exact b2_01 _ | assumption | (subst_vars; omega))
    all_goals first | rfl | exact congrArg (fun z : Int => (some (vI z) : Option AV)) (b2_t (by omega)) | exact congrArg (fun z : Int => (some (vI z) : Option AV)) (b2_f (by omega)) | ((repeat' split) <;> first | rfl | omega)
  · refine AW.aload_n (pc' := 9) dX7_isNew_8 rfl ?_
    refine AW.getR (pc' := 12) dX7_isNew_9 ly_12 fX7_36 rfl ?_
    refine AW.getR (pc' := 15) dX7_isNew_12 ly_6 fX7_65 rfl ?_
    refine AW.aload_n (pc' := 16) dX7_isNew_15 rfl ?_
    refine AW.getR (pc' := 19) dX7_isNew_16 ly_12 fX7_24 rfl ?_
    refine AW.iload_n (pc' := 20) dX7_isNew_19 rfl ?_
    first | refine AW.ialdN (pc' := 21) dX7_isNew_20 ly_17 (by first | assumption | omega | (constructor <;> omega) | (simp only [Int.toNat_natCast]; omega) | exact b2_in _) (by decide) (fun r20 => ?_) | refine AW.iald (pc' := 21) dX7_isNew_20 ly_17 (by first | assumption | omega | (constructor <;> omega) | (simp only [Int.toNat_natCast]; omega) | exact b2_in _) (by first | assumption | omega | (constructor <;> omega) | (simp only [Int.toNat_natCast]; omega) | exact b2_in _) (by decide) (fun r20 => ?_)
    first | refine AW.ialdN (pc' := 22) dX7_isNew_21 ly_8 (by first | assumption | omega | (constructor <;> omega) | (simp only [Int.toNat_natCast]; omega) | exact b2_in _) (by decide) (fun r21 => ?_) | refine AW.iald (pc' := 22) dX7_isNew_21 ly_8 (by first | assumption | omega | (constructor <;> omega) | (simp only [Int.toNat_natCast]; omega) | exact b2_in _) (by first | assumption | omega | (constructor <;> omega) | (simp only [Int.toNat_natCast]; omega) | exact b2_in _) (by decide) (fun r21 => ?_)
    refine AW.if_le (tgt := 29) (pc' := 25) dX7_isNew_22 (by first | assumption | omega | (constructor <;> omega) | (simp only [Int.toNat_natCast]; omega) | exact b2_in _) (fun c22 => ?_) (fun c22 => ?_)
    · refine AW.iconst (pc' := 30) dX7_isNew_29 ?_
      refine AW.zret dX7_isNew_30 ?_ ?_ (by first | exact Or.inl rfl | exact Or.inr rfl | exact b2_01 _ | assumption | (subst_vars; omega))
      all_goals first | rfl | exact congrArg (fun z : Int => (some (vI z) : Option AV)) (b2_t (by omega)) | exact congrArg (fun z : Int => (some (vI z) : Option AV)) (b2_f (by omega)) | ((repeat' split) <;> first | rfl | omega)
    · refine AW.iconst (pc' := 26) dX7_isNew_25 ?_
      refine AW.goto (tgt := 30) dX7_isNew_26 ?_
      refine AW.zret dX7_isNew_30 ?_ ?_ (by first | exact Or.inl rfl | exact Or.inr rfl | exact b2_01 _ | assumption | (subst_vars; omega))
      all_goals first | rfl | exact congrArg (fun z : Int => (some (vI z) : Option AV)) (b2_t (by omega)) | exact congrArg (fun z : Int => (some (vI z) : Option AV)) (b2_f (by omega)) | ((repeat' split) <;> first | rfl | omega)
set_option maxRecDepth 100000 in
set_option maxHeartbeats 4000000 in
theorem c_X7_falls {K : KT} {dep : Nat} {h : Hp} {a b : Int} (hd : 2 ≤ dep) (q0 : 0 ≤ a ∧ a < 120) (q1 : h 6 3 ≤ 6) (q2 : inI b) : AM K yX7_falls cX7_falls 3 (some .boolean) dep [vR 12, vI a, vI b] h (some (vI (b2 (0 ≤ h 17 a.toNat ∧ h 17 a.toNat < h 6 3 ∧ b < h 7 (h 17 a.toNat).toNat)))) (h) := by
  refine AM.of (own := RX7) (ls := [some (vR 12), some (vI a), some (vI b)]) rfl (by decide +kernel) (by exact Nat.le_of_ble_eq_true rfl) rfl (fun hO => ?_)
  refine AW.aload_n (pc' := 1) dX7_falls_0 rfl ?_
  refine AW.iload_n (pc' := 2) dX7_falls_1 rfl ?_
  refine AW.invV1 (pc' := 5) dX7_falls_2 mlX7_62 mX7_isSeen ly_12 rfl (c_X7_isSeen (dep := dep - 1) (by first | assumption | omega | (constructor <;> omega) | (simp only [Int.toNat_natCast]; omega) | exact b2_in _) (by first | assumption | omega | (constructor <;> omega) | (simp only [Int.toNat_natCast]; omega) | exact b2_in _)) ?_
  refine AW.ifb_eq (tgt := 30) (pc' := 8) dX7_falls_5 (fun c5 => ?_) (fun c5 => ?_)
  · refine AW.iconst (pc' := 31) dX7_falls_30 ?_
    refine AW.zret dX7_falls_31 ?_ ?_ (by first | exact Or.inl rfl | exact Or.inr rfl | exact b2_01 _ | assumption | (subst_vars; omega))
    all_goals first | rfl | exact congrArg (fun z : Int => (some (vI z) : Option AV)) (b2_t (by omega)) | exact congrArg (fun z : Int => (some (vI z) : Option AV)) (b2_f (by omega)) | ((repeat' split) <;> first | rfl | omega)
  · refine AW.aload_n (pc' := 9) dX7_falls_8 rfl ?_
    refine AW.getR (pc' := 12) dX7_falls_9 ly_12 fX7_36 rfl ?_
    refine AW.getR (pc' := 15) dX7_falls_12 ly_6 fX7_79 rfl ?_
    refine AW.aload_n (pc' := 16) dX7_falls_15 rfl ?_
    refine AW.getR (pc' := 19) dX7_falls_16 ly_12 fX7_24 rfl ?_
    refine AW.iload_n (pc' := 20) dX7_falls_19 rfl ?_
    first | refine AW.ialdN (pc' := 21) dX7_falls_20 ly_17 (by first | assumption | omega | (constructor <;> omega) | (simp only [Int.toNat_natCast]; omega) | exact b2_in _) (by decide) (fun r20 => ?_) | refine AW.iald (pc' := 21) dX7_falls_20 ly_17 (by first | assumption | omega | (constructor <;> omega) | (simp only [Int.toNat_natCast]; omega) | exact b2_in _) (by first | assumption | omega | (constructor <;> omega) | (simp only [Int.toNat_natCast]; omega) | exact b2_in _) (by decide) (fun r20 => ?_)
    first | refine AW.ialdN (pc' := 22) dX7_falls_21 ly_7 (by first | assumption | omega | (constructor <;> omega) | (simp only [Int.toNat_natCast]; omega) | exact b2_in _) (by decide) (fun r21 => ?_) | refine AW.iald (pc' := 22) dX7_falls_21 ly_7 (by first | assumption | omega | (constructor <;> omega) | (simp only [Int.toNat_natCast]; omega) | exact b2_in _) (by first | assumption | omega | (constructor <;> omega) | (simp only [Int.toNat_natCast]; omega) | exact b2_in _) (by decide) (fun r21 => ?_)
    refine AW.iload_n (pc' := 23) dX7_falls_22 rfl ?_
    refine AW.icmp_le (tgt := 30) (pc' := 26) dX7_falls_23 (by first | assumption | omega | (constructor <;> omega) | (simp only [Int.toNat_natCast]; omega) | exact b2_in _) (by first | assumption | omega | (constructor <;> omega) | (simp only [Int.toNat_natCast]; omega) | exact b2_in _) (fun c23 => ?_) (fun c23 => ?_)
    · refine AW.iconst (pc' := 31) dX7_falls_30 ?_
      refine AW.zret dX7_falls_31 ?_ ?_ (by first | exact Or.inl rfl | exact Or.inr rfl | exact b2_01 _ | assumption | (subst_vars; omega))
      all_goals first | rfl | exact congrArg (fun z : Int => (some (vI z) : Option AV)) (b2_t (by omega)) | exact congrArg (fun z : Int => (some (vI z) : Option AV)) (b2_f (by omega)) | ((repeat' split) <;> first | rfl | omega)
    · refine AW.iconst (pc' := 27) dX7_falls_26 ?_
      refine AW.goto (tgt := 31) dX7_falls_27 ?_
      refine AW.zret dX7_falls_31 ?_ ?_ (by first | exact Or.inl rfl | exact Or.inr rfl | exact b2_01 _ | assumption | (subst_vars; omega))
      all_goals first | rfl | exact congrArg (fun z : Int => (some (vI z) : Option AV)) (b2_t (by omega)) | exact congrArg (fun z : Int => (some (vI z) : Option AV)) (b2_f (by omega)) | ((repeat' split) <;> first | rfl | omega)
set_option maxRecDepth 100000 in
set_option maxHeartbeats 4000000 in
theorem c_X12_falls {K : KT} {dep : Nat} {h : Hp} {a b : Int}  (q0 : 0 ≤ a ∧ a < 120) (q1 : h 70 a.toNat < 6) (q2 : inI b) : AM K yX12_falls cX12_falls 3 (some .boolean) dep [vR 57, vI a, vI b] h (some (vI (b2 (0 ≤ h 70 a.toNat ∧ b < h 62 (h 70 a.toNat).toNat)))) (h) := by
  refine AM.of (own := RX12) (ls := [some (vR 57), some (vI a), some (vI b)]) rfl (by decide +kernel) (by exact Nat.le_of_ble_eq_true rfl) rfl (fun hO => ?_)
  refine AW.aload_n (pc' := 1) dX12_falls_0 rfl ?_
  refine AW.getR (pc' := 4) dX12_falls_1 ly_57 fX12_46 rfl ?_
  refine AW.iload_n (pc' := 5) dX12_falls_4 rfl ?_
  first | refine AW.ialdN (pc' := 6) dX12_falls_5 ly_70 (by first | assumption | omega | (constructor <;> omega) | (simp only [Int.toNat_natCast]; omega) | exact b2_in _) (by decide) (fun r5 => ?_) | refine AW.iald (pc' := 6) dX12_falls_5 ly_70 (by first | assumption | omega | (constructor <;> omega) | (simp only [Int.toNat_natCast]; omega) | exact b2_in _) (by first | assumption | omega | (constructor <;> omega) | (simp only [Int.toNat_natCast]; omega) | exact b2_in _) (by decide) (fun r5 => ?_)
  refine AW.if_lt (tgt := 28) (pc' := 9) dX12_falls_6 (by first | assumption | omega | (constructor <;> omega) | (simp only [Int.toNat_natCast]; omega) | exact b2_in _) (fun c6 => ?_) (fun c6 => ?_)
  · refine AW.iconst (pc' := 29) dX12_falls_28 ?_
    refine AW.zret dX12_falls_29 ?_ ?_ (by first | exact Or.inl rfl | exact Or.inr rfl | exact b2_01 _ | assumption | (subst_vars; omega))
    all_goals first | rfl | exact congrArg (fun z : Int => (some (vI z) : Option AV)) (b2_t (by omega)) | exact congrArg (fun z : Int => (some (vI z) : Option AV)) (b2_f (by omega)) | ((repeat' split) <;> first | rfl | omega)
  · refine AW.aload_n (pc' := 10) dX12_falls_9 rfl ?_
    refine AW.getR (pc' := 13) dX12_falls_10 ly_57 fX12_22 rfl ?_
    refine AW.aload_n (pc' := 14) dX12_falls_13 rfl ?_
    refine AW.getR (pc' := 17) dX12_falls_14 ly_57 fX12_46 rfl ?_
    refine AW.iload_n (pc' := 18) dX12_falls_17 rfl ?_
    first | refine AW.ialdN (pc' := 19) dX12_falls_18 ly_70 (by first | assumption | omega | (constructor <;> omega) | (simp only [Int.toNat_natCast]; omega) | exact b2_in _) (by decide) (fun r18 => ?_) | refine AW.iald (pc' := 19) dX12_falls_18 ly_70 (by first | assumption | omega | (constructor <;> omega) | (simp only [Int.toNat_natCast]; omega) | exact b2_in _) (by first | assumption | omega | (constructor <;> omega) | (simp only [Int.toNat_natCast]; omega) | exact b2_in _) (by decide) (fun r18 => ?_)
    first | refine AW.ialdN (pc' := 20) dX12_falls_19 ly_62 (by first | assumption | omega | (constructor <;> omega) | (simp only [Int.toNat_natCast]; omega) | exact b2_in _) (by decide) (fun r19 => ?_) | refine AW.iald (pc' := 20) dX12_falls_19 ly_62 (by first | assumption | omega | (constructor <;> omega) | (simp only [Int.toNat_natCast]; omega) | exact b2_in _) (by first | assumption | omega | (constructor <;> omega) | (simp only [Int.toNat_natCast]; omega) | exact b2_in _) (by decide) (fun r19 => ?_)
    refine AW.iload_n (pc' := 21) dX12_falls_20 rfl ?_
    refine AW.icmp_le (tgt := 28) (pc' := 24) dX12_falls_21 (by first | assumption | omega | (constructor <;> omega) | (simp only [Int.toNat_natCast]; omega) | exact b2_in _) (by first | assumption | omega | (constructor <;> omega) | (simp only [Int.toNat_natCast]; omega) | exact b2_in _) (fun c21 => ?_) (fun c21 => ?_)
    · refine AW.iconst (pc' := 29) dX12_falls_28 ?_
      refine AW.zret dX12_falls_29 ?_ ?_ (by first | exact Or.inl rfl | exact Or.inr rfl | exact b2_01 _ | assumption | (subst_vars; omega))
      all_goals first | rfl | exact congrArg (fun z : Int => (some (vI z) : Option AV)) (b2_t (by omega)) | exact congrArg (fun z : Int => (some (vI z) : Option AV)) (b2_f (by omega)) | ((repeat' split) <;> first | rfl | omega)
    · refine AW.iconst (pc' := 25) dX12_falls_24 ?_
      refine AW.goto (tgt := 29) dX12_falls_25 ?_
      refine AW.zret dX12_falls_29 ?_ ?_ (by first | exact Or.inl rfl | exact Or.inr rfl | exact b2_01 _ | assumption | (subst_vars; omega))
      all_goals first | rfl | exact congrArg (fun z : Int => (some (vI z) : Option AV)) (b2_t (by omega)) | exact congrArg (fun z : Int => (some (vI z) : Option AV)) (b2_f (by omega)) | ((repeat' split) <;> first | rfl | omega)
set_option maxRecDepth 100000 in
set_option maxHeartbeats 4000000 in
theorem c_X12_isNew {K : KT} {dep : Nat} {h : Hp} {a : Int}  (q0 : 0 ≤ a ∧ a < 120) (q1 : h 70 a.toNat < 6) : AM K yX12_isNew cX12_isNew 2 (some .boolean) dep [vR 57, vI a] h (some (vI (b2 (0 ≤ h 70 a.toNat ∧ 0 < h 63 (h 70 a.toNat).toNat)))) (h) := by
  refine AM.of (own := RX12) (ls := [some (vR 57), some (vI a)]) rfl (by decide +kernel) (by exact Nat.le_of_ble_eq_true rfl) rfl (fun hO => ?_)
  refine AW.aload_n (pc' := 1) dX12_isNew_0 rfl ?_
  refine AW.getR (pc' := 4) dX12_isNew_1 ly_57 fX12_46 rfl ?_
  refine AW.iload_n (pc' := 5) dX12_isNew_4 rfl ?_
  first | refine AW.ialdN (pc' := 6) dX12_isNew_5 ly_70 (by first | assumption | omega | (constructor <;> omega) | (simp only [Int.toNat_natCast]; omega) | exact b2_in _) (by decide) (fun r5 => ?_) | refine AW.iald (pc' := 6) dX12_isNew_5 ly_70 (by first | assumption | omega | (constructor <;> omega) | (simp only [Int.toNat_natCast]; omega) | exact b2_in _) (by first | assumption | omega | (constructor <;> omega) | (simp only [Int.toNat_natCast]; omega) | exact b2_in _) (by decide) (fun r5 => ?_)
  refine AW.if_lt (tgt := 27) (pc' := 9) dX12_isNew_6 (by first | assumption | omega | (constructor <;> omega) | (simp only [Int.toNat_natCast]; omega) | exact b2_in _) (fun c6 => ?_) (fun c6 => ?_)
  · refine AW.iconst (pc' := 28) dX12_isNew_27 ?_
    refine AW.zret dX12_isNew_28 ?_ ?_ (by first | exact Or.inl rfl | exact Or.inr rfl | exact b2_01 _ | assumption | (subst_vars; omega))
    all_goals first | rfl | exact congrArg (fun z : Int => (some (vI z) : Option AV)) (b2_t (by omega)) | exact congrArg (fun z : Int => (some (vI z) : Option AV)) (b2_f (by omega)) | ((repeat' split) <;> first | rfl | omega)
  · refine AW.aload_n (pc' := 10) dX12_isNew_9 rfl ?_
    refine AW.getR (pc' := 13) dX12_isNew_10 ly_57 fX12_25 rfl ?_
    refine AW.aload_n (pc' := 14) dX12_isNew_13 rfl ?_
    refine AW.getR (pc' := 17) dX12_isNew_14 ly_57 fX12_46 rfl ?_
    refine AW.iload_n (pc' := 18) dX12_isNew_17 rfl ?_
    first | refine AW.ialdN (pc' := 19) dX12_isNew_18 ly_70 (by first | assumption | omega | (constructor <;> omega) | (simp only [Int.toNat_natCast]; omega) | exact b2_in _) (by decide) (fun r18 => ?_) | refine AW.iald (pc' := 19) dX12_isNew_18 ly_70 (by first | assumption | omega | (constructor <;> omega) | (simp only [Int.toNat_natCast]; omega) | exact b2_in _) (by first | assumption | omega | (constructor <;> omega) | (simp only [Int.toNat_natCast]; omega) | exact b2_in _) (by decide) (fun r18 => ?_)
    first | refine AW.ialdN (pc' := 20) dX12_isNew_19 ly_63 (by first | assumption | omega | (constructor <;> omega) | (simp only [Int.toNat_natCast]; omega) | exact b2_in _) (by decide) (fun r19 => ?_) | refine AW.iald (pc' := 20) dX12_isNew_19 ly_63 (by first | assumption | omega | (constructor <;> omega) | (simp only [Int.toNat_natCast]; omega) | exact b2_in _) (by first | assumption | omega | (constructor <;> omega) | (simp only [Int.toNat_natCast]; omega) | exact b2_in _) (by decide) (fun r19 => ?_)
    refine AW.if_le (tgt := 27) (pc' := 23) dX12_isNew_20 (by first | assumption | omega | (constructor <;> omega) | (simp only [Int.toNat_natCast]; omega) | exact b2_in _) (fun c20 => ?_) (fun c20 => ?_)
    · refine AW.iconst (pc' := 28) dX12_isNew_27 ?_
      refine AW.zret dX12_isNew_28 ?_ ?_ (by first | exact Or.inl rfl | exact Or.inr rfl | exact b2_01 _ | assumption | (subst_vars; omega))
      all_goals first | rfl | exact congrArg (fun z : Int => (some (vI z) : Option AV)) (b2_t (by omega)) | exact congrArg (fun z : Int => (some (vI z) : Option AV)) (b2_f (by omega)) | ((repeat' split) <;> first | rfl | omega)
    · refine AW.iconst (pc' := 24) dX12_isNew_23 ?_
      refine AW.goto (tgt := 28) dX12_isNew_24 ?_
      refine AW.zret dX12_isNew_28 ?_ ?_ (by first | exact Or.inl rfl | exact Or.inr rfl | exact b2_01 _ | assumption | (subst_vars; omega))
      all_goals first | rfl | exact congrArg (fun z : Int => (some (vI z) : Option AV)) (b2_t (by omega)) | exact congrArg (fun z : Int => (some (vI z) : Option AV)) (b2_f (by omega)) | ((repeat' split) <;> first | rfl | omega)
set_option maxRecDepth 100000 in
set_option maxHeartbeats 4000000 in
theorem c_X12_isOld {K : KT} {dep : Nat} {h : Hp} {a : Int}  (q0 : 0 ≤ a ∧ a < 120) (q1 : h 70 a.toNat < 6) : AM K yX12_isOld cX12_isOld 2 (some .boolean) dep [vR 57, vI a] h (some (vI (b2 (0 ≤ h 70 a.toNat ∧ h 63 (h 70 a.toNat).toNat ≤ 0)))) (h) := by
  refine AM.of (own := RX12) (ls := [some (vR 57), some (vI a)]) rfl (by decide +kernel) (by exact Nat.le_of_ble_eq_true rfl) rfl (fun hO => ?_)
  refine AW.aload_n (pc' := 1) dX12_isOld_0 rfl ?_
  refine AW.getR (pc' := 4) dX12_isOld_1 ly_57 fX12_46 rfl ?_
  refine AW.iload_n (pc' := 5) dX12_isOld_4 rfl ?_
  first | refine AW.ialdN (pc' := 6) dX12_isOld_5 ly_70 (by first | assumption | omega | (constructor <;> omega) | (simp only [Int.toNat_natCast]; omega) | exact b2_in _) (by decide) (fun r5 => ?_) | refine AW.iald (pc' := 6) dX12_isOld_5 ly_70 (by first | assumption | omega | (constructor <;> omega) | (simp only [Int.toNat_natCast]; omega) | exact b2_in _) (by first | assumption | omega | (constructor <;> omega) | (simp only [Int.toNat_natCast]; omega) | exact b2_in _) (by decide) (fun r5 => ?_)
  refine AW.if_lt (tgt := 27) (pc' := 9) dX12_isOld_6 (by first | assumption | omega | (constructor <;> omega) | (simp only [Int.toNat_natCast]; omega) | exact b2_in _) (fun c6 => ?_) (fun c6 => ?_)
  · refine AW.iconst (pc' := 28) dX12_isOld_27 ?_
    refine AW.zret dX12_isOld_28 ?_ ?_ (by first | exact Or.inl rfl | exact Or.inr rfl | exact b2_01 _ | assumption | (subst_vars; omega))
    all_goals first | rfl | exact congrArg (fun z : Int => (some (vI z) : Option AV)) (b2_t (by omega)) | exact congrArg (fun z : Int => (some (vI z) : Option AV)) (b2_f (by omega)) | ((repeat' split) <;> first | rfl | omega)
  · refine AW.aload_n (pc' := 10) dX12_isOld_9 rfl ?_
    refine AW.getR (pc' := 13) dX12_isOld_10 ly_57 fX12_25 rfl ?_
    refine AW.aload_n (pc' := 14) dX12_isOld_13 rfl ?_
    refine AW.getR (pc' := 17) dX12_isOld_14 ly_57 fX12_46 rfl ?_
    refine AW.iload_n (pc' := 18) dX12_isOld_17 rfl ?_
    first | refine AW.ialdN (pc' := 19) dX12_isOld_18 ly_70 (by first | assumption | omega | (constructor <;> omega) | (simp only [Int.toNat_natCast]; omega) | exact b2_in _) (by decide) (fun r18 => ?_) | refine AW.iald (pc' := 19) dX12_isOld_18 ly_70 (by first | assumption | omega | (constructor <;> omega) | (simp only [Int.toNat_natCast]; omega) | exact b2_in _) (by first | assumption | omega | (constructor <;> omega) | (simp only [Int.toNat_natCast]; omega) | exact b2_in _) (by decide) (fun r18 => ?_)
    first | refine AW.ialdN (pc' := 20) dX12_isOld_19 ly_63 (by first | assumption | omega | (constructor <;> omega) | (simp only [Int.toNat_natCast]; omega) | exact b2_in _) (by decide) (fun r19 => ?_) | refine AW.iald (pc' := 20) dX12_isOld_19 ly_63 (by first | assumption | omega | (constructor <;> omega) | (simp only [Int.toNat_natCast]; omega) | exact b2_in _) (by first | assumption | omega | (constructor <;> omega) | (simp only [Int.toNat_natCast]; omega) | exact b2_in _) (by decide) (fun r19 => ?_)
    refine AW.if_gt (tgt := 27) (pc' := 23) dX12_isOld_20 (by first | assumption | omega | (constructor <;> omega) | (simp only [Int.toNat_natCast]; omega) | exact b2_in _) (fun c20 => ?_) (fun c20 => ?_)
    · refine AW.iconst (pc' := 28) dX12_isOld_27 ?_
      refine AW.zret dX12_isOld_28 ?_ ?_ (by first | exact Or.inl rfl | exact Or.inr rfl | exact b2_01 _ | assumption | (subst_vars; omega))
      all_goals first | rfl | exact congrArg (fun z : Int => (some (vI z) : Option AV)) (b2_t (by omega)) | exact congrArg (fun z : Int => (some (vI z) : Option AV)) (b2_f (by omega)) | ((repeat' split) <;> first | rfl | omega)
    · refine AW.iconst (pc' := 24) dX12_isOld_23 ?_
      refine AW.goto (tgt := 28) dX12_isOld_24 ?_
      refine AW.zret dX12_isOld_28 ?_ ?_ (by first | exact Or.inl rfl | exact Or.inr rfl | exact b2_01 _ | assumption | (subst_vars; omega))
      all_goals first | rfl | exact congrArg (fun z : Int => (some (vI z) : Option AV)) (b2_t (by omega)) | exact congrArg (fun z : Int => (some (vI z) : Option AV)) (b2_f (by omega)) | ((repeat' split) <;> first | rfl | omega)
set_option maxRecDepth 100000 in
set_option maxHeartbeats 4000000 in
theorem c_X12_isAhead {K : KT} {dep : Nat} {h : Hp} {a b : Int}  (q0 : 0 ≤ a ∧ a < 120) (q1 : 0 ≤ b ∧ b < 120) : AM K yX12_isAhead cX12_isAhead 3 (some .boolean) dep [vR 57, vI a, vI b] h (some (vI (b2 (h 68 a.toNat < h 68 b.toNat ∨ h 68 a.toNat = h 68 b.toNat ∧ a < b)))) (h) := by
  refine AM.of (own := RX12) (ls := [some (vR 57), some (vI a), some (vI b)]) rfl (by decide +kernel) (by exact Nat.le_of_ble_eq_true rfl) rfl (fun hO => ?_)
  refine AW.aload_n (pc' := 1) dX12_isAhead_0 rfl ?_
  refine AW.getR (pc' := 4) dX12_isAhead_1 ly_57 fX12_40 rfl ?_
  refine AW.iload_n (pc' := 5) dX12_isAhead_4 rfl ?_
  first | refine AW.ialdN (pc' := 6) dX12_isAhead_5 ly_68 (by first | assumption | omega | (constructor <;> omega) | (simp only [Int.toNat_natCast]; omega) | exact b2_in _) (by decide) (fun r5 => ?_) | refine AW.iald (pc' := 6) dX12_isAhead_5 ly_68 (by first | assumption | omega | (constructor <;> omega) | (simp only [Int.toNat_natCast]; omega) | exact b2_in _) (by first | assumption | omega | (constructor <;> omega) | (simp only [Int.toNat_natCast]; omega) | exact b2_in _) (by decide) (fun r5 => ?_)
  refine AW.aload_n (pc' := 7) dX12_isAhead_6 rfl ?_
  refine AW.getR (pc' := 10) dX12_isAhead_7 ly_57 fX12_40 rfl ?_
  refine AW.iload_n (pc' := 11) dX12_isAhead_10 rfl ?_
  first | refine AW.ialdN (pc' := 12) dX12_isAhead_11 ly_68 (by first | assumption | omega | (constructor <;> omega) | (simp only [Int.toNat_natCast]; omega) | exact b2_in _) (by decide) (fun r11 => ?_) | refine AW.iald (pc' := 12) dX12_isAhead_11 ly_68 (by first | assumption | omega | (constructor <;> omega) | (simp only [Int.toNat_natCast]; omega) | exact b2_in _) (by first | assumption | omega | (constructor <;> omega) | (simp only [Int.toNat_natCast]; omega) | exact b2_in _) (by decide) (fun r11 => ?_)
  refine AW.icmp_lt (tgt := 35) (pc' := 15) dX12_isAhead_12 (by first | assumption | omega | (constructor <;> omega) | (simp only [Int.toNat_natCast]; omega) | exact b2_in _) (by first | assumption | omega | (constructor <;> omega) | (simp only [Int.toNat_natCast]; omega) | exact b2_in _) (fun c12 => ?_) (fun c12 => ?_)
  · refine AW.iconst (pc' := 36) dX12_isAhead_35 ?_
    refine AW.goto (tgt := 40) dX12_isAhead_36 ?_
    refine AW.zret dX12_isAhead_40 ?_ ?_ (by first | exact Or.inl rfl | exact Or.inr rfl | exact b2_01 _ | assumption | (subst_vars; omega))
    all_goals first | rfl | exact congrArg (fun z : Int => (some (vI z) : Option AV)) (b2_t (by omega)) | exact congrArg (fun z : Int => (some (vI z) : Option AV)) (b2_f (by omega)) | ((repeat' split) <;> first | rfl | omega)
  · refine AW.aload_n (pc' := 16) dX12_isAhead_15 rfl ?_
    refine AW.getR (pc' := 19) dX12_isAhead_16 ly_57 fX12_40 rfl ?_
    refine AW.iload_n (pc' := 20) dX12_isAhead_19 rfl ?_
    first | refine AW.ialdN (pc' := 21) dX12_isAhead_20 ly_68 (by first | assumption | omega | (constructor <;> omega) | (simp only [Int.toNat_natCast]; omega) | exact b2_in _) (by decide) (fun r20 => ?_) | refine AW.iald (pc' := 21) dX12_isAhead_20 ly_68 (by first | assumption | omega | (constructor <;> omega) | (simp only [Int.toNat_natCast]; omega) | exact b2_in _) (by first | assumption | omega | (constructor <;> omega) | (simp only [Int.toNat_natCast]; omega) | exact b2_in _) (by decide) (fun r20 => ?_)
    refine AW.aload_n (pc' := 22) dX12_isAhead_21 rfl ?_
    refine AW.getR (pc' := 25) dX12_isAhead_22 ly_57 fX12_40 rfl ?_
    refine AW.iload_n (pc' := 26) dX12_isAhead_25 rfl ?_
    first | refine AW.ialdN (pc' := 27) dX12_isAhead_26 ly_68 (by first | assumption | omega | (constructor <;> omega) | (simp only [Int.toNat_natCast]; omega) | exact b2_in _) (by decide) (fun r26 => ?_) | refine AW.iald (pc' := 27) dX12_isAhead_26 ly_68 (by first | assumption | omega | (constructor <;> omega) | (simp only [Int.toNat_natCast]; omega) | exact b2_in _) (by first | assumption | omega | (constructor <;> omega) | (simp only [Int.toNat_natCast]; omega) | exact b2_in _) (by decide) (fun r26 => ?_)
    refine AW.icmp_ne (tgt := 39) (pc' := 30) dX12_isAhead_27 (by first | assumption | omega | (constructor <;> omega) | (simp only [Int.toNat_natCast]; omega) | exact b2_in _) (by first | assumption | omega | (constructor <;> omega) | (simp only [Int.toNat_natCast]; omega) | exact b2_in _) (fun c27 => ?_) (fun c27 => ?_)
    · refine AW.iconst (pc' := 40) dX12_isAhead_39 ?_
      refine AW.zret dX12_isAhead_40 ?_ ?_ (by first | exact Or.inl rfl | exact Or.inr rfl | exact b2_01 _ | assumption | (subst_vars; omega))
      all_goals first | rfl | exact congrArg (fun z : Int => (some (vI z) : Option AV)) (b2_t (by omega)) | exact congrArg (fun z : Int => (some (vI z) : Option AV)) (b2_f (by omega)) | ((repeat' split) <;> first | rfl | omega)
    · refine AW.iload_n (pc' := 31) dX12_isAhead_30 rfl ?_
      refine AW.iload_n (pc' := 32) dX12_isAhead_31 rfl ?_
      refine AW.icmp_ge (tgt := 39) (pc' := 35) dX12_isAhead_32 (by first | assumption | omega | (constructor <;> omega) | (simp only [Int.toNat_natCast]; omega) | exact b2_in _) (by first | assumption | omega | (constructor <;> omega) | (simp only [Int.toNat_natCast]; omega) | exact b2_in _) (fun c32 => ?_) (fun c32 => ?_)
      · refine AW.iconst (pc' := 40) dX12_isAhead_39 ?_
        refine AW.zret dX12_isAhead_40 ?_ ?_ (by first | exact Or.inl rfl | exact Or.inr rfl | exact b2_01 _ | assumption | (subst_vars; omega))
        all_goals first | rfl | exact congrArg (fun z : Int => (some (vI z) : Option AV)) (b2_t (by omega)) | exact congrArg (fun z : Int => (some (vI z) : Option AV)) (b2_f (by omega)) | ((repeat' split) <;> first | rfl | omega)
      · refine AW.iconst (pc' := 36) dX12_isAhead_35 ?_
        refine AW.goto (tgt := 40) dX12_isAhead_36 ?_
        refine AW.zret dX12_isAhead_40 ?_ ?_ (by first | exact Or.inl rfl | exact Or.inr rfl | exact b2_01 _ | assumption | (subst_vars; omega))
        all_goals first | rfl | exact congrArg (fun z : Int => (some (vI z) : Option AV)) (b2_t (by omega)) | exact congrArg (fun z : Int => (some (vI z) : Option AV)) (b2_f (by omega)) | ((repeat' split) <;> first | rfl | omega)
set_option maxRecDepth 100000 in
set_option maxHeartbeats 4000000 in
theorem c_X12_isBefore {K : KT} {dep : Nat} {h : Hp} {a b : Int}  (q0 : 0 ≤ a ∧ a < 120) (q1 : 0 ≤ b ∧ b < 120) : AM K yX12_isBefore cX12_isBefore 3 (some .boolean) dep [vR 57, vI a, vI b] h (some (vI (b2 (h 68 a.toNat < h 68 b.toNat ∨ h 68 a.toNat = h 68 b.toNat ∧ (h 69 a.toNat < h 69 b.toNat ∨ h 69 a.toNat = h 69 b.toNat ∧ a < b))))) (h) := by
  refine AM.of (own := RX12) (ls := [some (vR 57), some (vI a), some (vI b)]) rfl (by decide +kernel) (by exact Nat.le_of_ble_eq_true rfl) rfl (fun hO => ?_)
  refine AW.aload_n (pc' := 1) dX12_isBefore_0 rfl ?_
  refine AW.getR (pc' := 4) dX12_isBefore_1 ly_57 fX12_40 rfl ?_
  refine AW.iload_n (pc' := 5) dX12_isBefore_4 rfl ?_
  first | refine AW.ialdN (pc' := 6) dX12_isBefore_5 ly_68 (by first | assumption | omega | (constructor <;> omega) | (simp only [Int.toNat_natCast]; omega) | exact b2_in _) (by decide) (fun r5 => ?_) | refine AW.iald (pc' := 6) dX12_isBefore_5 ly_68 (by first | assumption | omega | (constructor <;> omega) | (simp only [Int.toNat_natCast]; omega) | exact b2_in _) (by first | assumption | omega | (constructor <;> omega) | (simp only [Int.toNat_natCast]; omega) | exact b2_in _) (by decide) (fun r5 => ?_)
  refine AW.aload_n (pc' := 7) dX12_isBefore_6 rfl ?_
  refine AW.getR (pc' := 10) dX12_isBefore_7 ly_57 fX12_40 rfl ?_
  refine AW.iload_n (pc' := 11) dX12_isBefore_10 rfl ?_
  first | refine AW.ialdN (pc' := 12) dX12_isBefore_11 ly_68 (by first | assumption | omega | (constructor <;> omega) | (simp only [Int.toNat_natCast]; omega) | exact b2_in _) (by decide) (fun r11 => ?_) | refine AW.iald (pc' := 12) dX12_isBefore_11 ly_68 (by first | assumption | omega | (constructor <;> omega) | (simp only [Int.toNat_natCast]; omega) | exact b2_in _) (by first | assumption | omega | (constructor <;> omega) | (simp only [Int.toNat_natCast]; omega) | exact b2_in _) (by decide) (fun r11 => ?_)
  refine AW.icmp_eq (tgt := 38) (pc' := 15) dX12_isBefore_12 (by first | assumption | omega | (constructor <;> omega) | (simp only [Int.toNat_natCast]; omega) | exact b2_in _) (by first | assumption | omega | (constructor <;> omega) | (simp only [Int.toNat_natCast]; omega) | exact b2_in _) (fun c12 => ?_) (fun c12 => ?_)
  · refine AW.aload_n (pc' := 39) dX12_isBefore_38 rfl ?_
    refine AW.getR (pc' := 42) dX12_isBefore_39 ly_57 fX12_43 rfl ?_
    refine AW.iload_n (pc' := 43) dX12_isBefore_42 rfl ?_
    first | refine AW.ialdN (pc' := 44) dX12_isBefore_43 ly_69 (by first | assumption | omega | (constructor <;> omega) | (simp only [Int.toNat_natCast]; omega) | exact b2_in _) (by decide) (fun r43 => ?_) | refine AW.iald (pc' := 44) dX12_isBefore_43 ly_69 (by first | assumption | omega | (constructor <;> omega) | (simp only [Int.toNat_natCast]; omega) | exact b2_in _) (by first | assumption | omega | (constructor <;> omega) | (simp only [Int.toNat_natCast]; omega) | exact b2_in _) (by decide) (fun r43 => ?_)
    refine AW.aload_n (pc' := 45) dX12_isBefore_44 rfl ?_
    refine AW.getR (pc' := 48) dX12_isBefore_45 ly_57 fX12_43 rfl ?_
    refine AW.iload_n (pc' := 49) dX12_isBefore_48 rfl ?_
    first | refine AW.ialdN (pc' := 50) dX12_isBefore_49 ly_69 (by first | assumption | omega | (constructor <;> omega) | (simp only [Int.toNat_natCast]; omega) | exact b2_in _) (by decide) (fun r49 => ?_) | refine AW.iald (pc' := 50) dX12_isBefore_49 ly_69 (by first | assumption | omega | (constructor <;> omega) | (simp only [Int.toNat_natCast]; omega) | exact b2_in _) (by first | assumption | omega | (constructor <;> omega) | (simp only [Int.toNat_natCast]; omega) | exact b2_in _) (by decide) (fun r49 => ?_)
    refine AW.icmp_eq (tgt := 76) (pc' := 53) dX12_isBefore_50 (by first | assumption | omega | (constructor <;> omega) | (simp only [Int.toNat_natCast]; omega) | exact b2_in _) (by first | assumption | omega | (constructor <;> omega) | (simp only [Int.toNat_natCast]; omega) | exact b2_in _) (fun c50 => ?_) (fun c50 => ?_)
    · refine AW.iload_n (pc' := 77) dX12_isBefore_76 rfl ?_
      refine AW.iload_n (pc' := 78) dX12_isBefore_77 rfl ?_
      refine AW.icmp_ge (tgt := 85) (pc' := 81) dX12_isBefore_78 (by first | assumption | omega | (constructor <;> omega) | (simp only [Int.toNat_natCast]; omega) | exact b2_in _) (by first | assumption | omega | (constructor <;> omega) | (simp only [Int.toNat_natCast]; omega) | exact b2_in _) (fun c78 => ?_) (fun c78 => ?_)
      · refine AW.iconst (pc' := 86) dX12_isBefore_85 ?_
        refine AW.zret dX12_isBefore_86 ?_ ?_ (by first | exact Or.inl rfl | exact Or.inr rfl | exact b2_01 _ | assumption | (subst_vars; omega))
        all_goals first | rfl | exact congrArg (fun z : Int => (some (vI z) : Option AV)) (b2_t (by omega)) | exact congrArg (fun z : Int => (some (vI z) : Option AV)) (b2_f (by omega)) | ((repeat' split) <;> first | rfl | omega)
      · refine AW.iconst (pc' := 82) dX12_isBefore_81 ?_
        refine AW.goto (tgt := 86) dX12_isBefore_82 ?_
        refine AW.zret dX12_isBefore_86 ?_ ?_ (by first | exact Or.inl rfl | exact Or.inr rfl | exact b2_01 _ | assumption | (subst_vars; omega))
        all_goals first | rfl | exact congrArg (fun z : Int => (some (vI z) : Option AV)) (b2_t (by omega)) | exact congrArg (fun z : Int => (some (vI z) : Option AV)) (b2_f (by omega)) | ((repeat' split) <;> first | rfl | omega)
    · refine AW.aload_n (pc' := 54) dX12_isBefore_53 rfl ?_
      refine AW.getR (pc' := 57) dX12_isBefore_54 ly_57 fX12_43 rfl ?_
      refine AW.iload_n (pc' := 58) dX12_isBefore_57 rfl ?_
      first | refine AW.ialdN (pc' := 59) dX12_isBefore_58 ly_69 (by first | assumption | omega | (constructor <;> omega) | (simp only [Int.toNat_natCast]; omega) | exact b2_in _) (by decide) (fun r58 => ?_) | refine AW.iald (pc' := 59) dX12_isBefore_58 ly_69 (by first | assumption | omega | (constructor <;> omega) | (simp only [Int.toNat_natCast]; omega) | exact b2_in _) (by first | assumption | omega | (constructor <;> omega) | (simp only [Int.toNat_natCast]; omega) | exact b2_in _) (by decide) (fun r58 => ?_)
      refine AW.aload_n (pc' := 60) dX12_isBefore_59 rfl ?_
      refine AW.getR (pc' := 63) dX12_isBefore_60 ly_57 fX12_43 rfl ?_
      refine AW.iload_n (pc' := 64) dX12_isBefore_63 rfl ?_
      first | refine AW.ialdN (pc' := 65) dX12_isBefore_64 ly_69 (by first | assumption | omega | (constructor <;> omega) | (simp only [Int.toNat_natCast]; omega) | exact b2_in _) (by decide) (fun r64 => ?_) | refine AW.iald (pc' := 65) dX12_isBefore_64 ly_69 (by first | assumption | omega | (constructor <;> omega) | (simp only [Int.toNat_natCast]; omega) | exact b2_in _) (by first | assumption | omega | (constructor <;> omega) | (simp only [Int.toNat_natCast]; omega) | exact b2_in _) (by decide) (fun r64 => ?_)
      refine AW.icmp_ge (tgt := 72) (pc' := 68) dX12_isBefore_65 (by first | assumption | omega | (constructor <;> omega) | (simp only [Int.toNat_natCast]; omega) | exact b2_in _) (by first | assumption | omega | (constructor <;> omega) | (simp only [Int.toNat_natCast]; omega) | exact b2_in _) (fun c65 => ?_) (fun c65 => ?_)
      · refine AW.iconst (pc' := 73) dX12_isBefore_72 ?_
        refine AW.goto (tgt := 86) dX12_isBefore_73 ?_
        refine AW.zret dX12_isBefore_86 ?_ ?_ (by first | exact Or.inl rfl | exact Or.inr rfl | exact b2_01 _ | assumption | (subst_vars; omega))
        all_goals first | rfl | exact congrArg (fun z : Int => (some (vI z) : Option AV)) (b2_t (by omega)) | exact congrArg (fun z : Int => (some (vI z) : Option AV)) (b2_f (by omega)) | ((repeat' split) <;> first | rfl | omega)
      · refine AW.iconst (pc' := 69) dX12_isBefore_68 ?_
        refine AW.goto (tgt := 86) dX12_isBefore_69 ?_
        refine AW.zret dX12_isBefore_86 ?_ ?_ (by first | exact Or.inl rfl | exact Or.inr rfl | exact b2_01 _ | assumption | (subst_vars; omega))
        all_goals first | rfl | exact congrArg (fun z : Int => (some (vI z) : Option AV)) (b2_t (by omega)) | exact congrArg (fun z : Int => (some (vI z) : Option AV)) (b2_f (by omega)) | ((repeat' split) <;> first | rfl | omega)
  · refine AW.aload_n (pc' := 16) dX12_isBefore_15 rfl ?_
    refine AW.getR (pc' := 19) dX12_isBefore_16 ly_57 fX12_40 rfl ?_
    refine AW.iload_n (pc' := 20) dX12_isBefore_19 rfl ?_
    first | refine AW.ialdN (pc' := 21) dX12_isBefore_20 ly_68 (by first | assumption | omega | (constructor <;> omega) | (simp only [Int.toNat_natCast]; omega) | exact b2_in _) (by decide) (fun r20 => ?_) | refine AW.iald (pc' := 21) dX12_isBefore_20 ly_68 (by first | assumption | omega | (constructor <;> omega) | (simp only [Int.toNat_natCast]; omega) | exact b2_in _) (by first | assumption | omega | (constructor <;> omega) | (simp only [Int.toNat_natCast]; omega) | exact b2_in _) (by decide) (fun r20 => ?_)
    refine AW.aload_n (pc' := 22) dX12_isBefore_21 rfl ?_
    refine AW.getR (pc' := 25) dX12_isBefore_22 ly_57 fX12_40 rfl ?_
    refine AW.iload_n (pc' := 26) dX12_isBefore_25 rfl ?_
    first | refine AW.ialdN (pc' := 27) dX12_isBefore_26 ly_68 (by first | assumption | omega | (constructor <;> omega) | (simp only [Int.toNat_natCast]; omega) | exact b2_in _) (by decide) (fun r26 => ?_) | refine AW.iald (pc' := 27) dX12_isBefore_26 ly_68 (by first | assumption | omega | (constructor <;> omega) | (simp only [Int.toNat_natCast]; omega) | exact b2_in _) (by first | assumption | omega | (constructor <;> omega) | (simp only [Int.toNat_natCast]; omega) | exact b2_in _) (by decide) (fun r26 => ?_)
    refine AW.icmp_ge (tgt := 34) (pc' := 30) dX12_isBefore_27 (by first | assumption | omega | (constructor <;> omega) | (simp only [Int.toNat_natCast]; omega) | exact b2_in _) (by first | assumption | omega | (constructor <;> omega) | (simp only [Int.toNat_natCast]; omega) | exact b2_in _) (fun c27 => ?_) (fun c27 => ?_)
    · refine AW.iconst (pc' := 35) dX12_isBefore_34 ?_
      refine AW.goto (tgt := 86) dX12_isBefore_35 ?_
      refine AW.zret dX12_isBefore_86 ?_ ?_ (by first | exact Or.inl rfl | exact Or.inr rfl | exact b2_01 _ | assumption | (subst_vars; omega))
      all_goals first | rfl | exact congrArg (fun z : Int => (some (vI z) : Option AV)) (b2_t (by omega)) | exact congrArg (fun z : Int => (some (vI z) : Option AV)) (b2_f (by omega)) | ((repeat' split) <;> first | rfl | omega)
    · refine AW.iconst (pc' := 31) dX12_isBefore_30 ?_
      refine AW.goto (tgt := 86) dX12_isBefore_31 ?_
      refine AW.zret dX12_isBefore_86 ?_ ?_ (by first | exact Or.inl rfl | exact Or.inr rfl | exact b2_01 _ | assumption | (subst_vars; omega))
      all_goals first | rfl | exact congrArg (fun z : Int => (some (vI z) : Option AV)) (b2_t (by omega)) | exact congrArg (fun z : Int => (some (vI z) : Option AV)) (b2_f (by omega)) | ((repeat' split) <;> first | rfl | omega)
set_option maxRecDepth 100000 in
set_option maxHeartbeats 4000000 in
theorem c_X12_mayRun {K : KT} {dep : Nat} {h : Hp} {a b c d e : Int} (hd : 1 ≤ dep) (q0 : inI a) (q1 : inI b) (q2 : inI c) (q3 : inI d) (q4 : inI e) : AM K yX12_mayRun cX12_mayRun 6 (some .boolean) dep [vR 57, vI a, vI b, vI c, vI d, vI e] h (some (vI (b2 ((0 ≤ a ∧ a < h 57 13) ∧ (0 ≤ b ∧ b < h 57 15) ∧ (0 ≤ c ∧ c ≤ 99) ∧ (10 ≤ d ∧ d ≤ 29999) ∧ (e = -1 ∨ 0 ≤ e ∧ e < h 57 14))))) (h) := by
  refine AM.of (own := RX12) (ls := [some (vR 57), some (vI a), some (vI b), some (vI c), some (vI d), some (vI e)]) rfl (by decide +kernel) (by exact Nat.le_of_ble_eq_true rfl) rfl (fun hO => ?_)
  refine AW.aload_n (pc' := 1) dX12_mayRun_0 rfl ?_
  refine AW.iload_n (pc' := 2) dX12_mayRun_1 rfl ?_
  refine AW.invV1 (pc' := 5) dX12_mayRun_2 mlX12_131 mX12_isRunner ly_57 rfl (c_X12_isRunner (dep := dep - 1) (by first | assumption | omega | (constructor <;> omega) | (simp only [Int.toNat_natCast]; omega) | exact b2_in _)) ?_
  refine AW.ifb_eq (tgt := 58) (pc' := 8) dX12_mayRun_5 (fun c5 => ?_) (fun c5 => ?_)
  · refine AW.iconst (pc' := 59) dX12_mayRun_58 ?_
    refine AW.zret dX12_mayRun_59 ?_ ?_ (by first | exact Or.inl rfl | exact Or.inr rfl | exact b2_01 _ | assumption | (subst_vars; omega))
    all_goals first | rfl | exact congrArg (fun z : Int => (some (vI z) : Option AV)) (b2_t (by omega)) | exact congrArg (fun z : Int => (some (vI z) : Option AV)) (b2_f (by omega)) | ((repeat' split) <;> first | rfl | omega)
  · refine AW.aload_n (pc' := 9) dX12_mayRun_8 rfl ?_
    refine AW.iload_n (pc' := 10) dX12_mayRun_9 rfl ?_
    refine AW.invV1 (pc' := 13) dX12_mayRun_10 mlX12_135 mX12_isCourse ly_57 rfl (c_X12_isCourse (dep := dep - 1) (by first | assumption | omega | (constructor <;> omega) | (simp only [Int.toNat_natCast]; omega) | exact b2_in _)) ?_
    refine AW.ifb_eq (tgt := 58) (pc' := 16) dX12_mayRun_13 (fun c13 => ?_) (fun c13 => ?_)
    · refine AW.iconst (pc' := 59) dX12_mayRun_58 ?_
      refine AW.zret dX12_mayRun_59 ?_ ?_ (by first | exact Or.inl rfl | exact Or.inr rfl | exact b2_01 _ | assumption | (subst_vars; omega))
      all_goals first | rfl | exact congrArg (fun z : Int => (some (vI z) : Option AV)) (b2_t (by omega)) | exact congrArg (fun z : Int => (some (vI z) : Option AV)) (b2_f (by omega)) | ((repeat' split) <;> first | rfl | omega)
    · refine AW.iload_n (pc' := 17) dX12_mayRun_16 rfl ?_
      refine AW.iconst (pc' := 18) dX12_mayRun_17 ?_
      refine AW.bipush (pc' := 20) dX12_mayRun_18 (by decide) ?_
      refine AW.invS3 (pc' := 23) dX12_mayRun_20 mlX12_117 mX12_isIn (c_X12_isIn (dep := dep - 1) (by first | assumption | omega | (constructor <;> omega) | (simp only [Int.toNat_natCast]; omega) | exact b2_in _) (by first | assumption | omega | (constructor <;> omega) | (simp only [Int.toNat_natCast]; omega) | exact b2_in _) (by first | assumption | omega | (constructor <;> omega) | (simp only [Int.toNat_natCast]; omega) | exact b2_in _)) ?_
      refine AW.ifb_eq (tgt := 58) (pc' := 26) dX12_mayRun_23 (fun c23 => ?_) (fun c23 => ?_)
      · refine AW.iconst (pc' := 59) dX12_mayRun_58 ?_
        refine AW.zret dX12_mayRun_59 ?_ ?_ (by first | exact Or.inl rfl | exact Or.inr rfl | exact b2_01 _ | assumption | (subst_vars; omega))
        all_goals first | rfl | exact congrArg (fun z : Int => (some (vI z) : Option AV)) (b2_t (by omega)) | exact congrArg (fun z : Int => (some (vI z) : Option AV)) (b2_f (by omega)) | ((repeat' split) <;> first | rfl | omega)
      · refine AW.iload (pc' := 28) dX12_mayRun_26 rfl ?_
        refine AW.bipush (pc' := 30) dX12_mayRun_28 (by decide) ?_
        refine AW.sipush (pc' := 33) dX12_mayRun_30 (by decide) ?_
        refine AW.invS3 (pc' := 36) dX12_mayRun_33 mlX12_117 mX12_isIn (c_X12_isIn (dep := dep - 1) (by first | assumption | omega | (constructor <;> omega) | (simp only [Int.toNat_natCast]; omega) | exact b2_in _) (by first | assumption | omega | (constructor <;> omega) | (simp only [Int.toNat_natCast]; omega) | exact b2_in _) (by first | assumption | omega | (constructor <;> omega) | (simp only [Int.toNat_natCast]; omega) | exact b2_in _)) ?_
        refine AW.ifb_eq (tgt := 58) (pc' := 39) dX12_mayRun_36 (fun c36 => ?_) (fun c36 => ?_)
        · refine AW.iconst (pc' := 59) dX12_mayRun_58 ?_
          refine AW.zret dX12_mayRun_59 ?_ ?_ (by first | exact Or.inl rfl | exact Or.inr rfl | exact b2_01 _ | assumption | (subst_vars; omega))
          all_goals first | rfl | exact congrArg (fun z : Int => (some (vI z) : Option AV)) (b2_t (by omega)) | exact congrArg (fun z : Int => (some (vI z) : Option AV)) (b2_f (by omega)) | ((repeat' split) <;> first | rfl | omega)
        · refine AW.iload (pc' := 41) dX12_mayRun_39 rfl ?_
          refine AW.iconst (pc' := 42) dX12_mayRun_41 ?_
          refine AW.icmp_eq (tgt := 54) (pc' := 45) dX12_mayRun_42 (by first | assumption | omega | (constructor <;> omega) | (simp only [Int.toNat_natCast]; omega) | exact b2_in _) (by first | assumption | omega | (constructor <;> omega) | (simp only [Int.toNat_natCast]; omega) | exact b2_in _) (fun c42 => ?_) (fun c42 => ?_)
          · refine AW.iconst (pc' := 55) dX12_mayRun_54 ?_
            refine AW.goto (tgt := 59) dX12_mayRun_55 ?_
            refine AW.zret dX12_mayRun_59 ?_ ?_ (by first | exact Or.inl rfl | exact Or.inr rfl | exact b2_01 _ | assumption | (subst_vars; omega))
            all_goals first | rfl | exact congrArg (fun z : Int => (some (vI z) : Option AV)) (b2_t (by omega)) | exact congrArg (fun z : Int => (some (vI z) : Option AV)) (b2_f (by omega)) | ((repeat' split) <;> first | rfl | omega)
          · refine AW.aload_n (pc' := 46) dX12_mayRun_45 rfl ?_
            refine AW.iload (pc' := 48) dX12_mayRun_46 rfl ?_
            refine AW.invV1 (pc' := 51) dX12_mayRun_48 mlX12_138 mX12_isShoe ly_57 rfl (c_X12_isShoe (dep := dep - 1) (by first | assumption | omega | (constructor <;> omega) | (simp only [Int.toNat_natCast]; omega) | exact b2_in _)) ?_
            refine AW.ifb_eq (tgt := 58) (pc' := 54) dX12_mayRun_51 (fun c51 => ?_) (fun c51 => ?_)
            · refine AW.iconst (pc' := 59) dX12_mayRun_58 ?_
              refine AW.zret dX12_mayRun_59 ?_ ?_ (by first | exact Or.inl rfl | exact Or.inr rfl | exact b2_01 _ | assumption | (subst_vars; omega))
              all_goals first | rfl | exact congrArg (fun z : Int => (some (vI z) : Option AV)) (b2_t (by omega)) | exact congrArg (fun z : Int => (some (vI z) : Option AV)) (b2_f (by omega)) | ((repeat' split) <;> first | rfl | omega)
            · refine AW.iconst (pc' := 55) dX12_mayRun_54 ?_
              refine AW.goto (tgt := 59) dX12_mayRun_55 ?_
              refine AW.zret dX12_mayRun_59 ?_ ?_ (by first | exact Or.inl rfl | exact Or.inr rfl | exact b2_01 _ | assumption | (subst_vars; omega))
              all_goals first | rfl | exact congrArg (fun z : Int => (some (vI z) : Option AV)) (b2_t (by omega)) | exact congrArg (fun z : Int => (some (vI z) : Option AV)) (b2_f (by omega)) | ((repeat' split) <;> first | rfl | omega)
set_option maxRecDepth 100000 in
set_option maxHeartbeats 4000000 in
theorem c_X11_isRun {K : KT} {dep : Nat} {h : Hp} {a b c d e : Int} (hd : 1 ≤ dep) (q0 : inI a) (q1 : inI b) (q2 : inI c) (q3 : inI d) (q4 : inI e) : AM K yX11_isRun cX11_isRun 6 (some .boolean) dep [vR 0, vI a, vI b, vI c, vI d, vI e] h (some (vI (b2 ((0 ≤ a ∧ a < h 1 4) ∧ (0 ≤ b ∧ b < h 10 1) ∧ (0 ≤ c ∧ c ≤ 99) ∧ (10 ≤ d ∧ d ≤ 29999) ∧ (e = -1 ∨ 0 ≤ e ∧ e < h 6 3))))) (h) := by
  refine AM.of (own := RX11) (ls := [some (vR 0), some (vI a), some (vI b), some (vI c), some (vI d), some (vI e)]) rfl (by decide +kernel) (by exact Nat.le_of_ble_eq_true rfl) rfl (fun hO => ?_)
  refine AW.aload_n (pc' := 1) dX11_isRun_0 rfl ?_
  refine AW.getR (pc' := 4) dX11_isRun_1 ly_0 fX11_10 rfl ?_
  refine AW.iload_n (pc' := 5) dX11_isRun_4 rfl ?_
  refine AW.invV1 (pc' := 8) dX11_isRun_5 mlX11_132 mX6_has ly_1 rfl (c_X6_has (dep := dep - 1) (by first | assumption | omega | (constructor <;> omega) | (simp only [Int.toNat_natCast]; omega) | exact b2_in _)) ?_
  refine AW.ifb_eq (tgt := 67) (pc' := 11) dX11_isRun_8 (fun c8 => ?_) (fun c8 => ?_)
  · refine AW.iconst (pc' := 68) dX11_isRun_67 ?_
    refine AW.zret dX11_isRun_68 ?_ ?_ (by first | exact Or.inl rfl | exact Or.inr rfl | exact b2_01 _ | assumption | (subst_vars; omega))
    all_goals first | rfl | exact congrArg (fun z : Int => (some (vI z) : Option AV)) (b2_t (by omega)) | exact congrArg (fun z : Int => (some (vI z) : Option AV)) (b2_f (by omega)) | ((repeat' split) <;> first | rfl | omega)
  · refine AW.aload_n (pc' := 12) dX11_isRun_11 rfl ?_
    refine AW.getR (pc' := 15) dX11_isRun_12 ly_0 fX11_26 rfl ?_
    refine AW.iload_n (pc' := 16) dX11_isRun_15 rfl ?_
    refine AW.invV1 (pc' := 19) dX11_isRun_16 mlX11_133 mX4_has ly_10 rfl (c_X4_has (dep := dep - 1) (by first | assumption | omega | (constructor <;> omega) | (simp only [Int.toNat_natCast]; omega) | exact b2_in _)) ?_
    refine AW.ifb_eq (tgt := 67) (pc' := 22) dX11_isRun_19 (fun c19 => ?_) (fun c19 => ?_)
    · refine AW.iconst (pc' := 68) dX11_isRun_67 ?_
      refine AW.zret dX11_isRun_68 ?_ ?_ (by first | exact Or.inl rfl | exact Or.inr rfl | exact b2_01 _ | assumption | (subst_vars; omega))
      all_goals first | rfl | exact congrArg (fun z : Int => (some (vI z) : Option AV)) (b2_t (by omega)) | exact congrArg (fun z : Int => (some (vI z) : Option AV)) (b2_f (by omega)) | ((repeat' split) <;> first | rfl | omega)
    · refine AW.iload_n (pc' := 23) dX11_isRun_22 rfl ?_
      refine AW.iconst (pc' := 24) dX11_isRun_23 ?_
      refine AW.bipush (pc' := 26) dX11_isRun_24 (by decide) ?_
      refine AW.invS3 (pc' := 29) dX11_isRun_26 mlX11_89 mX11_within (c_X11_within (dep := dep - 1) (by first | assumption | omega | (constructor <;> omega) | (simp only [Int.toNat_natCast]; omega) | exact b2_in _) (by first | assumption | omega | (constructor <;> omega) | (simp only [Int.toNat_natCast]; omega) | exact b2_in _) (by first | assumption | omega | (constructor <;> omega) | (simp only [Int.toNat_natCast]; omega) | exact b2_in _)) ?_
      refine AW.ifb_eq (tgt := 67) (pc' := 32) dX11_isRun_29 (fun c29 => ?_) (fun c29 => ?_)
      · refine AW.iconst (pc' := 68) dX11_isRun_67 ?_
        refine AW.zret dX11_isRun_68 ?_ ?_ (by first | exact Or.inl rfl | exact Or.inr rfl | exact b2_01 _ | assumption | (subst_vars; omega))
        all_goals first | rfl | exact congrArg (fun z : Int => (some (vI z) : Option AV)) (b2_t (by omega)) | exact congrArg (fun z : Int => (some (vI z) : Option AV)) (b2_f (by omega)) | ((repeat' split) <;> first | rfl | omega)
      · refine AW.iload (pc' := 34) dX11_isRun_32 rfl ?_
        refine AW.bipush (pc' := 36) dX11_isRun_34 (by decide) ?_
        refine AW.sipush (pc' := 39) dX11_isRun_36 (by decide) ?_
        refine AW.invS3 (pc' := 42) dX11_isRun_39 mlX11_89 mX11_within (c_X11_within (dep := dep - 1) (by first | assumption | omega | (constructor <;> omega) | (simp only [Int.toNat_natCast]; omega) | exact b2_in _) (by first | assumption | omega | (constructor <;> omega) | (simp only [Int.toNat_natCast]; omega) | exact b2_in _) (by first | assumption | omega | (constructor <;> omega) | (simp only [Int.toNat_natCast]; omega) | exact b2_in _)) ?_
        refine AW.ifb_eq (tgt := 67) (pc' := 45) dX11_isRun_42 (fun c42 => ?_) (fun c42 => ?_)
        · refine AW.iconst (pc' := 68) dX11_isRun_67 ?_
          refine AW.zret dX11_isRun_68 ?_ ?_ (by first | exact Or.inl rfl | exact Or.inr rfl | exact b2_01 _ | assumption | (subst_vars; omega))
          all_goals first | rfl | exact congrArg (fun z : Int => (some (vI z) : Option AV)) (b2_t (by omega)) | exact congrArg (fun z : Int => (some (vI z) : Option AV)) (b2_f (by omega)) | ((repeat' split) <;> first | rfl | omega)
        · refine AW.iload (pc' := 47) dX11_isRun_45 rfl ?_
          refine AW.iconst (pc' := 48) dX11_isRun_47 ?_
          refine AW.icmp_eq (tgt := 63) (pc' := 51) dX11_isRun_48 (by first | assumption | omega | (constructor <;> omega) | (simp only [Int.toNat_natCast]; omega) | exact b2_in _) (by first | assumption | omega | (constructor <;> omega) | (simp only [Int.toNat_natCast]; omega) | exact b2_in _) (fun c48 => ?_) (fun c48 => ?_)
          · refine AW.iconst (pc' := 64) dX11_isRun_63 ?_
            refine AW.goto (tgt := 68) dX11_isRun_64 ?_
            refine AW.zret dX11_isRun_68 ?_ ?_ (by first | exact Or.inl rfl | exact Or.inr rfl | exact b2_01 _ | assumption | (subst_vars; omega))
            all_goals first | rfl | exact congrArg (fun z : Int => (some (vI z) : Option AV)) (b2_t (by omega)) | exact congrArg (fun z : Int => (some (vI z) : Option AV)) (b2_f (by omega)) | ((repeat' split) <;> first | rfl | omega)
          · refine AW.aload_n (pc' := 52) dX11_isRun_51 rfl ?_
            refine AW.getR (pc' := 55) dX11_isRun_52 ly_0 fX11_19 rfl ?_
            refine AW.iload (pc' := 57) dX11_isRun_55 rfl ?_
            refine AW.invV1 (pc' := 60) dX11_isRun_57 mlX11_134 mX9_has ly_6 rfl (c_X9_has (dep := dep - 1) (by first | assumption | omega | (constructor <;> omega) | (simp only [Int.toNat_natCast]; omega) | exact b2_in _)) ?_
            refine AW.ifb_eq (tgt := 67) (pc' := 63) dX11_isRun_60 (fun c60 => ?_) (fun c60 => ?_)
            · refine AW.iconst (pc' := 68) dX11_isRun_67 ?_
              refine AW.zret dX11_isRun_68 ?_ ?_ (by first | exact Or.inl rfl | exact Or.inr rfl | exact b2_01 _ | assumption | (subst_vars; omega))
              all_goals first | rfl | exact congrArg (fun z : Int => (some (vI z) : Option AV)) (b2_t (by omega)) | exact congrArg (fun z : Int => (some (vI z) : Option AV)) (b2_f (by omega)) | ((repeat' split) <;> first | rfl | omega)
            · refine AW.iconst (pc' := 64) dX11_isRun_63 ?_
              refine AW.goto (tgt := 68) dX11_isRun_64 ?_
              refine AW.zret dX11_isRun_68 ?_ ?_ (by first | exact Or.inl rfl | exact Or.inr rfl | exact b2_01 _ | assumption | (subst_vars; omega))
              all_goals first | rfl | exact congrArg (fun z : Int => (some (vI z) : Option AV)) (b2_t (by omega)) | exact congrArg (fun z : Int => (some (vI z) : Option AV)) (b2_f (by omega)) | ((repeat' split) <;> first | rfl | omega)
set_option maxRecDepth 100000 in
set_option maxHeartbeats 4000000 in
theorem c_X12_comes {K : KT} {dep : Nat} {h : Hp} {a b c d e : Int}  (q0 : 0 ≤ h 57 16 ∧ h 57 16 < 120) (q1 : inI a) (q2 : inI b) (q3 : inI c) (q4 : inI d) (q5 : inI e) : AM K yX12_comes cX12_comes 6 none dep [vR 57, vI a, vI b, vI c, vI d, vI e] h none (hset (hset (hset (hset (hset (hset h 66 (h 57 16).toNat a) 67 (h 57 16).toNat b) 68 (h 57 16).toNat c) 69 (h 57 16).toNat d) 70 (h 57 16).toNat e) 57 16 (h 57 16 + 1)) := by
  refine AM.of (own := RX12) (ls := [some (vR 57), some (vI a), some (vI b), some (vI c), some (vI d), some (vI e)]) rfl (by decide +kernel) (by exact Nat.le_of_ble_eq_true rfl) rfl (fun hO => ?_)
  refine AW.aload_n (pc' := 1) dX12_comes_0 rfl ?_
  refine AW.getR (pc' := 4) dX12_comes_1 ly_57 fX12_34 rfl ?_
  refine AW.aload_n (pc' := 5) dX12_comes_4 rfl ?_
  refine AW.getI (pc' := 8) dX12_comes_5 ly_57 fX12_128 rfl (fun r5 => ?_)
  refine AW.iload_n (pc' := 9) dX12_comes_8 rfl ?_
  first | refine AW.iastN (pc' := 10) dX12_comes_9 ly_66 (by first | assumption | omega | (constructor <;> omega) | (simp only [Int.toNat_natCast]; omega) | exact b2_in _) (by decide) (by first | assumption | omega | (constructor <;> omega) | (simp only [Int.toNat_natCast]; omega) | exact b2_in _) ?_ | refine AW.iast (pc' := 10) dX12_comes_9 ly_66 (by first | assumption | omega | (constructor <;> omega) | (simp only [Int.toNat_natCast]; omega) | exact b2_in _) (by first | assumption | omega | (constructor <;> omega) | (simp only [Int.toNat_natCast]; omega) | exact b2_in _) (by decide) (by first | assumption | omega | (constructor <;> omega) | (simp only [Int.toNat_natCast]; omega) | exact b2_in _) ?_
  refine AW.aload_n (pc' := 11) dX12_comes_10 rfl ?_
  refine AW.getR (pc' := 14) dX12_comes_11 ly_57 fX12_37 rfl ?_
  refine AW.aload_n (pc' := 15) dX12_comes_14 rfl ?_
  refine AW.getI (pc' := 18) dX12_comes_15 ly_57 fX12_128 rfl (fun r15 => ?_)
  try simp only [hset_app, Nat.reduceEqDiff, false_and, and_false, true_and, and_true, reduceIte] at r15 ⊢
  refine AW.iload_n (pc' := 19) dX12_comes_18 rfl ?_
  first | refine AW.iastN (pc' := 20) dX12_comes_19 ly_67 (by first | assumption | omega | (constructor <;> omega) | (simp only [Int.toNat_natCast]; omega) | exact b2_in _) (by decide) (by first | assumption | omega | (constructor <;> omega) | (simp only [Int.toNat_natCast]; omega) | exact b2_in _) ?_ | refine AW.iast (pc' := 20) dX12_comes_19 ly_67 (by first | assumption | omega | (constructor <;> omega) | (simp only [Int.toNat_natCast]; omega) | exact b2_in _) (by first | assumption | omega | (constructor <;> omega) | (simp only [Int.toNat_natCast]; omega) | exact b2_in _) (by decide) (by first | assumption | omega | (constructor <;> omega) | (simp only [Int.toNat_natCast]; omega) | exact b2_in _) ?_
  refine AW.aload_n (pc' := 21) dX12_comes_20 rfl ?_
  refine AW.getR (pc' := 24) dX12_comes_21 ly_57 fX12_40 rfl ?_
  refine AW.aload_n (pc' := 25) dX12_comes_24 rfl ?_
  refine AW.getI (pc' := 28) dX12_comes_25 ly_57 fX12_128 rfl (fun r25 => ?_)
  try simp only [hset_app, Nat.reduceEqDiff, false_and, and_false, true_and, and_true, reduceIte] at r25 ⊢
  refine AW.iload_n (pc' := 29) dX12_comes_28 rfl ?_
  first | refine AW.iastN (pc' := 30) dX12_comes_29 ly_68 (by first | assumption | omega | (constructor <;> omega) | (simp only [Int.toNat_natCast]; omega) | exact b2_in _) (by decide) (by first | assumption | omega | (constructor <;> omega) | (simp only [Int.toNat_natCast]; omega) | exact b2_in _) ?_ | refine AW.iast (pc' := 30) dX12_comes_29 ly_68 (by first | assumption | omega | (constructor <;> omega) | (simp only [Int.toNat_natCast]; omega) | exact b2_in _) (by first | assumption | omega | (constructor <;> omega) | (simp only [Int.toNat_natCast]; omega) | exact b2_in _) (by decide) (by first | assumption | omega | (constructor <;> omega) | (simp only [Int.toNat_natCast]; omega) | exact b2_in _) ?_
  refine AW.aload_n (pc' := 31) dX12_comes_30 rfl ?_
  refine AW.getR (pc' := 34) dX12_comes_31 ly_57 fX12_43 rfl ?_
  refine AW.aload_n (pc' := 35) dX12_comes_34 rfl ?_
  refine AW.getI (pc' := 38) dX12_comes_35 ly_57 fX12_128 rfl (fun r35 => ?_)
  try simp only [hset_app, Nat.reduceEqDiff, false_and, and_false, true_and, and_true, reduceIte] at r35 ⊢
  refine AW.iload (pc' := 40) dX12_comes_38 rfl ?_
  first | refine AW.iastN (pc' := 41) dX12_comes_40 ly_69 (by first | assumption | omega | (constructor <;> omega) | (simp only [Int.toNat_natCast]; omega) | exact b2_in _) (by decide) (by first | assumption | omega | (constructor <;> omega) | (simp only [Int.toNat_natCast]; omega) | exact b2_in _) ?_ | refine AW.iast (pc' := 41) dX12_comes_40 ly_69 (by first | assumption | omega | (constructor <;> omega) | (simp only [Int.toNat_natCast]; omega) | exact b2_in _) (by first | assumption | omega | (constructor <;> omega) | (simp only [Int.toNat_natCast]; omega) | exact b2_in _) (by decide) (by first | assumption | omega | (constructor <;> omega) | (simp only [Int.toNat_natCast]; omega) | exact b2_in _) ?_
  refine AW.aload_n (pc' := 42) dX12_comes_41 rfl ?_
  refine AW.getR (pc' := 45) dX12_comes_42 ly_57 fX12_46 rfl ?_
  refine AW.aload_n (pc' := 46) dX12_comes_45 rfl ?_
  refine AW.getI (pc' := 49) dX12_comes_46 ly_57 fX12_128 rfl (fun r46 => ?_)
  try simp only [hset_app, Nat.reduceEqDiff, false_and, and_false, true_and, and_true, reduceIte] at r46 ⊢
  refine AW.iload (pc' := 51) dX12_comes_49 rfl ?_
  first | refine AW.iastN (pc' := 52) dX12_comes_51 ly_70 (by first | assumption | omega | (constructor <;> omega) | (simp only [Int.toNat_natCast]; omega) | exact b2_in _) (by decide) (by first | assumption | omega | (constructor <;> omega) | (simp only [Int.toNat_natCast]; omega) | exact b2_in _) ?_ | refine AW.iast (pc' := 52) dX12_comes_51 ly_70 (by first | assumption | omega | (constructor <;> omega) | (simp only [Int.toNat_natCast]; omega) | exact b2_in _) (by first | assumption | omega | (constructor <;> omega) | (simp only [Int.toNat_natCast]; omega) | exact b2_in _) (by decide) (by first | assumption | omega | (constructor <;> omega) | (simp only [Int.toNat_natCast]; omega) | exact b2_in _) ?_
  refine AW.aload_n (pc' := 53) dX12_comes_52 rfl ?_
  refine AW.dup (pc' := 54) dX12_comes_53 rfl ?_
  refine AW.getI (pc' := 57) dX12_comes_54 ly_57 fX12_128 rfl (fun r54 => ?_)
  try simp only [hset_app, Nat.reduceEqDiff, false_and, and_false, true_and, and_true, reduceIte] at r54 ⊢
  refine AW.iconst (pc' := 58) dX12_comes_57 ?_
  refine AW.iadd (pc' := 59) dX12_comes_58 ?_
  refine AW.putI (pc' := 62) dX12_comes_59 ly_57 pX12_128 rfl (by first | assumption | omega | (constructor <;> omega) | (simp only [Int.toNat_natCast]; omega) | exact b2_in _) ?_
  refine AW.vret dX12_comes_62 ?_ ?_
  all_goals first | rfl | exact congrArg (fun z : Int => (some (vI z) : Option AV)) (b2_t (by omega)) | exact congrArg (fun z : Int => (some (vI z) : Option AV)) (b2_f (by omega)) | ((repeat' split) <;> first | rfl | omega)
