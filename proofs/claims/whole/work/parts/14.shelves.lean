/-! shelves -/
theorem in32 (x : Int32) : inI x.toInt := ⟨Int32.le_toInt x, by have := Int32.toInt_lt x; omega⟩
/-- what a row keeps of a long -/
def lowF (a v : Int) : Int := if a = 0 then (Int32.ofInt v).toInt8.toInt32.toInt else if a = 1 then (Int32.ofInt v).toInt16.toInt32.toInt else if a = 2 then (Int32.ofInt v).toInt else if a = 3 then v else if v = 0 then 0 else 1
theorem lowF_in {a v : Int} (h : inL v) : inL (lowF a v) := by
  have h1 := in32 ((Int32.ofInt v).toInt8.toInt32)
  have h2 := in32 ((Int32.ofInt v).toInt16.toInt32)
  have h3 := in32 (Int32.ofInt v)
  unfold lowF
  (repeat' split) <;> first | exact h | (constructor <;> omega)
set_option maxRecDepth 100000 in
set_option maxHeartbeats 4000000 in
theorem c_X8_lowest {K : KT} {dep : Nat} {h : Hp} {a v : Int}  (q0 : 0 ≤ a ∧ a ≤ 4) (q1 : inL v) : AM K yX8_lowest cX8_lowest 3 (some .long) dep [vI a, vL v] h (some (vL (lowF a v))) (h) := by
  refine AM.of (own := RX8) (ls := [some (vI a), some (vL v), none]) rfl (by decide +kernel) (by exact Nat.le_of_ble_eq_true rfl) rfl (fun hO => ?_)
  refine AW.iload_n (pc' := 1) dX8_lowest_0 rfl ?_
  by_cases s1_0 : a = 0
  · refine AW.top s1_0 ?_
    refine AW.tableIn (tgt := 36) (off := 35) dX8_lowest_1 (by decide) (by decide) (by decide) rfl ?_
    refine AW.lload_n (pc' := 37) dX8_lowest_36 rfl ?_
    refine AW.l2i (pc' := 38) dX8_lowest_37 ?_
    refine AW.i2b (pc' := 39) dX8_lowest_38 ?_
    have hin := in32 ((Int32.ofInt v).toInt8.toInt32)
    refine AW.i2l (pc' := 40) dX8_lowest_39 (by first | assumption | omega | (constructor <;> omega) | (simp only [Int.toNat_natCast]; omega) | exact b2_in _) ?_
    refine AW.lret dX8_lowest_40 ?_ ?_
    · refine congrArg (fun z : Int => (some (vL z) : Option AV)) ?_
      unfold lowF
      (repeat' split) <;> first | rfl | omega
    · rfl
  by_cases s1_1 : a = 1
  · refine AW.top s1_1 ?_
    refine AW.tableIn (tgt := 41) (off := 40) dX8_lowest_1 (by decide) (by decide) (by decide) rfl ?_
    refine AW.lload_n (pc' := 42) dX8_lowest_41 rfl ?_
    refine AW.l2i (pc' := 43) dX8_lowest_42 ?_
    refine AW.i2s (pc' := 44) dX8_lowest_43 ?_
    have hin := in32 ((Int32.ofInt v).toInt16.toInt32)
    refine AW.i2l (pc' := 45) dX8_lowest_44 (by first | assumption | omega | (constructor <;> omega) | (simp only [Int.toNat_natCast]; omega) | exact b2_in _) ?_
    refine AW.lret dX8_lowest_45 ?_ ?_
    · refine congrArg (fun z : Int => (some (vL z) : Option AV)) ?_
      unfold lowF
      (repeat' split) <;> first | rfl | omega
    · rfl
  by_cases s1_2 : a = 2
  · refine AW.top s1_2 ?_
    refine AW.tableIn (tgt := 46) (off := 45) dX8_lowest_1 (by decide) (by decide) (by decide) rfl ?_
    refine AW.lload_n (pc' := 47) dX8_lowest_46 rfl ?_
    refine AW.l2i (pc' := 48) dX8_lowest_47 ?_
    refine AW.cong (b := (Int32.ofInt v).toInt) (by rw [Int32.ofInt_toInt]) ?_
    have hin := in32 (Int32.ofInt v)
    refine AW.i2l (pc' := 49) dX8_lowest_48 (by first | assumption | omega | (constructor <;> omega) | (simp only [Int.toNat_natCast]; omega) | exact b2_in _) ?_
    refine AW.lret dX8_lowest_49 ?_ ?_
    · refine congrArg (fun z : Int => (some (vL z) : Option AV)) ?_
      unfold lowF
      (repeat' split) <;> first | rfl | omega
    · rfl
  by_cases s1_4 : a = 4
  · refine AW.top s1_4 ?_
    refine AW.tableIn (tgt := 50) (off := 49) dX8_lowest_1 (by decide) (by decide) (by decide) rfl ?_
    refine AW.lload_n (pc' := 51) dX8_lowest_50 rfl ?_
    refine AW.lconst_0 (pc' := 52) dX8_lowest_51 ?_
    refine AW.lcmp (pc' := 53) dX8_lowest_52 (by first | assumption | omega | (constructor <;> omega) | (simp only [Int.toNat_natCast]; omega) | exact b2_in _) (by first | assumption | omega | (constructor <;> omega) | (simp only [Int.toNat_natCast]; omega) | exact b2_in _) ?_
    refine AW.if_eq (tgt := 60) (pc' := 56) dX8_lowest_53 (cmpI_in _ _) (fun c53 => ?_) (fun c53 => ?_)
    · simp only [cmpI_lt, cmpI_le, cmpI_gt, cmpI_ge, cmpI_eq, cmpI_ne] at c53
      refine AW.lconst_0 (pc' := 61) dX8_lowest_60 ?_
      refine AW.lret dX8_lowest_61 ?_ ?_
      · refine congrArg (fun z : Int => (some (vL z) : Option AV)) ?_
        unfold lowF
        (repeat' split) <;> first | rfl | omega
      · rfl
    · simp only [cmpI_lt, cmpI_le, cmpI_gt, cmpI_ge, cmpI_eq, cmpI_ne] at c53
      refine AW.lconst_1 (pc' := 57) dX8_lowest_56 ?_
      refine AW.goto (tgt := 61) dX8_lowest_57 ?_
      refine AW.lret dX8_lowest_61 ?_ ?_
      · refine congrArg (fun z : Int => (some (vL z) : Option AV)) ?_
        unfold lowF
        (repeat' split) <;> first | rfl | omega
      · rfl
  by_cases s1_3 : a = 3
  · refine AW.top s1_3 ?_
    refine AW.tableIn (tgt := 62) (off := 61) dX8_lowest_1 (by decide) (by decide) (by decide) rfl ?_
    refine AW.lload_n (pc' := 63) dX8_lowest_62 rfl ?_
    refine AW.lret dX8_lowest_63 ?_ ?_
    · refine congrArg (fun z : Int => (some (vL z) : Option AV)) ?_
      unfold lowF
      (repeat' split) <;> first | rfl | omega
    · rfl
  refine AW.tableOut (tgt := 62) dX8_lowest_1 (by first | assumption | omega | (constructor <;> omega) | (simp only [Int.toNat_natCast]; omega) | exact b2_in _) (by omega) ?_
  refine AW.lload_n (pc' := 63) dX8_lowest_62 rfl ?_
  refine AW.lret dX8_lowest_63 ?_ ?_
  · refine congrArg (fun z : Int => (some (vL z) : Option AV)) ?_
    unfold lowF
    (repeat' split) <;> first | rfl | omega
  · rfl
set_option maxRecDepth 100000 in
set_option maxHeartbeats 4000000 in
theorem c_X12_kept {K : KT} {dep : Nat} {h : Hp} {a v : Int}  (q0 : 0 ≤ a ∧ a ≤ 4) (q1 : inL v) : AM K yX12_kept cX12_kept 3 (some .long) dep [vI a, vL v] h (some (vL (lowF a v))) (h) := by
  refine AM.of (own := RX12) (ls := [some (vI a), some (vL v), none]) rfl (by decide +kernel) (by exact Nat.le_of_ble_eq_true rfl) rfl (fun hO => ?_)
  refine AW.iload_n (pc' := 1) dX12_kept_0 rfl ?_
  refine AW.if_ne (tgt := 11) (pc' := 4) dX12_kept_1 (by first | assumption | omega | (constructor <;> omega) | (simp only [Int.toNat_natCast]; omega) | exact b2_in _) (fun c1 => ?_) (fun c1 => ?_)
  · refine AW.iload_n (pc' := 12) dX12_kept_11 rfl ?_
    refine AW.iconst (pc' := 13) dX12_kept_12 ?_
    refine AW.icmp_ne (tgt := 23) (pc' := 16) dX12_kept_13 (by first | assumption | omega | (constructor <;> omega) | (simp only [Int.toNat_natCast]; omega) | exact b2_in _) (by first | assumption | omega | (constructor <;> omega) | (simp only [Int.toNat_natCast]; omega) | exact b2_in _) (fun c13 => ?_) (fun c13 => ?_)
    · refine AW.iload_n (pc' := 24) dX12_kept_23 rfl ?_
      refine AW.iconst (pc' := 25) dX12_kept_24 ?_
      refine AW.icmp_ne (tgt := 34) (pc' := 28) dX12_kept_25 (by first | assumption | omega | (constructor <;> omega) | (simp only [Int.toNat_natCast]; omega) | exact b2_in _) (by first | assumption | omega | (constructor <;> omega) | (simp only [Int.toNat_natCast]; omega) | exact b2_in _) (fun c25 => ?_) (fun c25 => ?_)
      · refine AW.iload_n (pc' := 35) dX12_kept_34 rfl ?_
        refine AW.iconst (pc' := 36) dX12_kept_35 ?_
        refine AW.icmp_ne (tgt := 43) (pc' := 39) dX12_kept_36 (by first | assumption | omega | (constructor <;> omega) | (simp only [Int.toNat_natCast]; omega) | exact b2_in _) (by first | assumption | omega | (constructor <;> omega) | (simp only [Int.toNat_natCast]; omega) | exact b2_in _) (fun c36 => ?_) (fun c36 => ?_)
        · refine AW.lload_n (pc' := 44) dX12_kept_43 rfl ?_
          refine AW.lconst_0 (pc' := 45) dX12_kept_44 ?_
          refine AW.lcmp (pc' := 46) dX12_kept_45 (by first | assumption | omega | (constructor <;> omega) | (simp only [Int.toNat_natCast]; omega) | exact b2_in _) (by first | assumption | omega | (constructor <;> omega) | (simp only [Int.toNat_natCast]; omega) | exact b2_in _) ?_
          refine AW.if_eq (tgt := 53) (pc' := 49) dX12_kept_46 (cmpI_in _ _) (fun c46 => ?_) (fun c46 => ?_)
          · simp only [cmpI_lt, cmpI_le, cmpI_gt, cmpI_ge, cmpI_eq, cmpI_ne] at c46
            refine AW.lconst_0 (pc' := 54) dX12_kept_53 ?_
            refine AW.lret dX12_kept_54 ?_ ?_
            · refine congrArg (fun z : Int => (some (vL z) : Option AV)) ?_
              unfold lowF
              (repeat' split) <;> first | rfl | omega
            · rfl
          · simp only [cmpI_lt, cmpI_le, cmpI_gt, cmpI_ge, cmpI_eq, cmpI_ne] at c46
            refine AW.lconst_1 (pc' := 50) dX12_kept_49 ?_
            refine AW.goto (tgt := 54) dX12_kept_50 ?_
            refine AW.lret dX12_kept_54 ?_ ?_
            · refine congrArg (fun z : Int => (some (vL z) : Option AV)) ?_
              unfold lowF
              (repeat' split) <;> first | rfl | omega
            · rfl
        · refine AW.lload_n (pc' := 40) dX12_kept_39 rfl ?_
          refine AW.goto (tgt := 54) dX12_kept_40 ?_
          refine AW.lret dX12_kept_54 ?_ ?_
          · refine congrArg (fun z : Int => (some (vL z) : Option AV)) ?_
            unfold lowF
            (repeat' split) <;> first | rfl | omega
          · rfl
      · refine AW.lload_n (pc' := 29) dX12_kept_28 rfl ?_
        refine AW.l2i (pc' := 30) dX12_kept_29 ?_
        refine AW.cong (b := (Int32.ofInt v).toInt) (by rw [Int32.ofInt_toInt]) ?_
        have hin := in32 (Int32.ofInt v)
        refine AW.i2l (pc' := 31) dX12_kept_30 (by first | assumption | omega | (constructor <;> omega) | (simp only [Int.toNat_natCast]; omega) | exact b2_in _) ?_
        refine AW.goto (tgt := 54) dX12_kept_31 ?_
        refine AW.lret dX12_kept_54 ?_ ?_
        · refine congrArg (fun z : Int => (some (vL z) : Option AV)) ?_
          unfold lowF
          (repeat' split) <;> first | rfl | omega
        · rfl
    · refine AW.lload_n (pc' := 17) dX12_kept_16 rfl ?_
      refine AW.l2i (pc' := 18) dX12_kept_17 ?_
      refine AW.i2s (pc' := 19) dX12_kept_18 ?_
      have hin := in32 ((Int32.ofInt v).toInt16.toInt32)
      refine AW.i2l (pc' := 20) dX12_kept_19 (by first | assumption | omega | (constructor <;> omega) | (simp only [Int.toNat_natCast]; omega) | exact b2_in _) ?_
      refine AW.goto (tgt := 54) dX12_kept_20 ?_
      refine AW.lret dX12_kept_54 ?_ ?_
      · refine congrArg (fun z : Int => (some (vL z) : Option AV)) ?_
        unfold lowF
        (repeat' split) <;> first | rfl | omega
      · rfl
  · refine AW.lload_n (pc' := 5) dX12_kept_4 rfl ?_
    refine AW.l2i (pc' := 6) dX12_kept_5 ?_
    refine AW.i2b (pc' := 7) dX12_kept_6 ?_
    have hin := in32 ((Int32.ofInt v).toInt8.toInt32)
    refine AW.i2l (pc' := 8) dX12_kept_7 (by first | assumption | omega | (constructor <;> omega) | (simp only [Int.toNat_natCast]; omega) | exact b2_in _) ?_
    refine AW.goto (tgt := 54) dX12_kept_8 ?_
    refine AW.lret dX12_kept_54 ?_ ?_
    · refine congrArg (fun z : Int => (some (vL z) : Option AV)) ?_
      unfold lowF
      (repeat' split) <;> first | rfl | omega
    · rfl
/-- the shelves' numbers: what each holds, how long -/
def PShe (hd ln : Nat → Int) : Prop := ∀ s : Nat, s < 6 → 0 ≤ hd s ∧ hd s ≤ 6 ∧ 0 ≤ ln s ∧ ln s ≤ 60
def PSheM (hd ln : Nat → Int) : Prop := ∀ s : Nat, s < 6 → -2 ≤ hd s ∧ hd s ≤ 4 ∧ 0 ≤ ln s ∧ ln s ≤ 60
def whyX (hd ln : Nat → Int) (a b : Int) : Int := if ¬ (0 ≤ a ∧ a < 6) then -1 else if hd a.toNat = 6 then -11 else if hd a.toNat = 5 then -12 else if 0 ≤ b ∧ b + 1 ≤ ln a.toNat then 0 else -13
def whyM (hd ln : Nat → Int) (a b : Int) : Int := if ¬ (0 ≤ a ∧ a < 6) then -1 else if hd a.toNat = -2 then -11 else if hd a.toNat = -1 then -12 else if 0 ≤ b ∧ b < ln a.toNat then 1 else -13
theorem whyX_0 {hd ln : Nat → Int} {a b : Int} (P : PShe hd ln) (h : whyX hd ln a b = 0) : 0 ≤ a ∧ a < 6 ∧ 0 ≤ b ∧ b < ln a.toNat ∧ ln a.toNat ≤ 60 ∧ 0 ≤ hd a.toNat ∧ hd a.toNat ≤ 4 := by
  unfold whyX at h
  by_cases z : 0 ≤ a ∧ a < 6
  · have := P a.toNat (by omega)
    (repeat' split at h) <;> omega
  · rw [if_pos z] at h
    omega
theorem whyM_1 {hd ln : Nat → Int} {a b : Int} (P : PSheM hd ln) (h : whyM hd ln a b = 1) : 0 ≤ a ∧ a < 6 ∧ 0 ≤ b ∧ b < ln a.toNat ∧ ln a.toNat ≤ 60 ∧ 0 ≤ hd a.toNat ∧ hd a.toNat ≤ 4 := by
  unfold whyM at h
  by_cases z : 0 ≤ a ∧ a < 6
  · have := P a.toNat (by omega)
    (repeat' split at h) <;> omega
  · rw [if_pos z] at h
    omega
theorem whyX_in (hd ln : Nat → Int) (a b : Int) : -13 ≤ whyX hd ln a b ∧ whyX hd ln a b ≤ 0 := by unfold whyX; (repeat' split) <;> omega
theorem whyM_in (hd ln : Nat → Int) (a b : Int) : -13 ≤ whyM hd ln a b ∧ whyM hd ln a b ≤ 1 := by unfold whyM; (repeat' split) <;> omega
set_option maxRecDepth 100000 in
set_option maxHeartbeats 4000000 in
theorem c_X11_put {K : KT} {dep : Nat} {h : Hp} {a b v : Int} (hd : 2 ≤ dep) (qp : PShe (h 47) (h 49)) (q1 : inI a) (q2 : inI b) (q3 : inL v) : AM K yX11_put cX11_put 6 (some .int) dep [vR 0, vI a, vI b, vL v] h (some (vI (if whyX (h 47) (h 49) a b = 0 then 1 else whyX (h 47) (h 49) a b))) (if whyX (h 47) (h 49) a b = 0 then hset h (51 + a.toNat) b.toNat (lowF (h 47 a.toNat) v) else h) := by
  refine AM.of (own := RX11) (ls := [some (vR 0), some (vI a), some (vI b), some (vL v), none, none]) rfl (by decide +kernel) (by exact Nat.le_of_ble_eq_true rfl) rfl (fun hO => ?_)
  refine AW.aload_n (pc' := 1) dX11_put_0 rfl ?_
  refine AW.getR (pc' := 4) dX11_put_1 ly_0 fX11_81 rfl ?_
  refine AW.iload_n (pc' := 5) dX11_put_4 rfl ?_
  refine AW.iload_n (pc' := 6) dX11_put_5 rfl ?_
  refine AW.invV2 (pc' := 9) dX11_put_6 mlX11_316 mX8_refuses ly_46 rfl (c_X8_refuses (dep := dep - 1) (by first | assumption | omega | (constructor <;> omega) | (simp only [Int.toNat_natCast]; omega) | exact b2_in _) (by first | assumption | omega | (constructor <;> omega) | (simp only [Int.toNat_natCast]; omega) | exact b2_in _) (by first | assumption | omega | (constructor <;> omega) | (simp only [Int.toNat_natCast]; omega) | exact b2_in _)) ?_
  try simp only [Int.toNat_natCast, Int.reduceToNat]
  rw [show (if ¬ (0 ≤ a ∧ a < 6) then (-1 : Int) else if h 47 a.toNat = 6 then -11 else if h 47 a.toNat = 5 then -12 else if 0 ≤ b ∧ b + 1 ≤ h 49 a.toNat then 0 else -13) = whyX (h 47) (h 49) a b from rfl]
  have wi := whyX_in (h 47) (h 49) a b
  refine AW.istore5 (pc' := 11) dX11_put_9 (by decide) rfl ?_
  refine AW.iload (pc' := 13) dX11_put_11 rfl ?_
  refine AW.if_eq (tgt := 19) (pc' := 16) dX11_put_13 (by first | assumption | omega | (constructor <;> omega) | (simp only [Int.toNat_natCast]; omega) | exact b2_in _) (fun c13 => ?_) (fun c13 => ?_)
  · have w0 := whyX_0 qp c13
    refine AW.aload_n (pc' := 20) dX11_put_19 rfl ?_
    refine AW.getR (pc' := 23) dX11_put_20 ly_0 fX11_81 rfl ?_
    refine AW.getR (pc' := 26) dX11_put_23 ly_46 fX11_128 rfl ?_
    by_cases v26_0 : a = 0
    · subst v26_0
      refine AW.iload_n (pc' := 27) dX11_put_26 rfl ?_
      try simp only [Int.reduceToNat] at w0
      refine AW.aaldL (pc' := 28) dX11_put_27 ly_50 (by decide) (by decide) (by decide) rfl ?_
      refine AW.iload_n (pc' := 29) dX11_put_28 rfl ?_
      refine AW.aload_n (pc' := 30) dX11_put_29 rfl ?_
      refine AW.getR (pc' := 33) dX11_put_30 ly_0 fX11_81 rfl ?_
      refine AW.getR (pc' := 36) dX11_put_33 ly_46 fX11_115 rfl ?_
      refine AW.iload_n (pc' := 37) dX11_put_36 rfl ?_
      first | refine AW.ialdN (pc' := 38) dX11_put_37 ly_47 (by first | assumption | omega | (constructor <;> omega) | (simp only [Int.toNat_natCast]; omega) | exact b2_in _) (by decide) (fun r37 => ?_) | refine AW.iald (pc' := 38) dX11_put_37 ly_47 (by first | assumption | omega | (constructor <;> omega) | (simp only [Int.toNat_natCast]; omega) | exact b2_in _) (by first | assumption | omega | (constructor <;> omega) | (simp only [Int.toNat_natCast]; omega) | exact b2_in _) (by decide) (fun r37 => ?_)
      try simp only [Int.reduceToNat] at r37 ⊢
      refine AW.lload_n (pc' := 39) dX11_put_38 rfl ?_
      refine AW.invS2 (pc' := 42) dX11_put_39 mlX11_319 mX8_lowest (c_X8_lowest (dep := dep - 1) (by first | assumption | omega | (constructor <;> omega) | (simp only [Int.toNat_natCast]; omega) | exact b2_in _) (by first | assumption | omega | (constructor <;> omega) | (simp only [Int.toNat_natCast]; omega) | exact b2_in _)) ?_
      try simp only [Int.toNat_natCast, Int.reduceToNat]
      have lf := lowF_in (a := h 47 0) (v := v) (by assumption)
      first | refine AW.lastN (pc' := 43) dX11_put_42 ly_51 (by first | assumption | omega | (constructor <;> omega) | (simp only [Int.toNat_natCast]; omega) | exact b2_in _) (by decide) (by first | assumption | omega | (constructor <;> omega) | (simp only [Int.toNat_natCast]; omega) | exact b2_in _) ?_ | refine AW.last (pc' := 43) dX11_put_42 ly_51 (by first | assumption | omega | (constructor <;> omega) | (simp only [Int.toNat_natCast]; omega) | exact b2_in _) (by first | assumption | omega | (constructor <;> omega) | (simp only [Int.toNat_natCast]; omega) | exact b2_in _) (by decide) (by first | assumption | omega | (constructor <;> omega) | (simp only [Int.toNat_natCast]; omega) | exact b2_in _) ?_
      refine AW.iconst (pc' := 44) dX11_put_43 ?_
      refine AW.iret dX11_put_44 ?_ ?_
      · first | (rw [if_pos c13]) | (rw [if_neg c13])
      · first | (rw [if_pos c13]; rfl) | (rw [if_neg c13])
    by_cases v26_1 : a = 1
    · subst v26_1
      refine AW.iload_n (pc' := 27) dX11_put_26 rfl ?_
      try simp only [Int.reduceToNat] at w0
      refine AW.aaldL (pc' := 28) dX11_put_27 ly_50 (by decide) (by decide) (by decide) rfl ?_
      refine AW.iload_n (pc' := 29) dX11_put_28 rfl ?_
      refine AW.aload_n (pc' := 30) dX11_put_29 rfl ?_
      refine AW.getR (pc' := 33) dX11_put_30 ly_0 fX11_81 rfl ?_
      refine AW.getR (pc' := 36) dX11_put_33 ly_46 fX11_115 rfl ?_
      refine AW.iload_n (pc' := 37) dX11_put_36 rfl ?_
      first | refine AW.ialdN (pc' := 38) dX11_put_37 ly_47 (by first | assumption | omega | (constructor <;> omega) | (simp only [Int.toNat_natCast]; omega) | exact b2_in _) (by decide) (fun r37 => ?_) | refine AW.iald (pc' := 38) dX11_put_37 ly_47 (by first | assumption | omega | (constructor <;> omega) | (simp only [Int.toNat_natCast]; omega) | exact b2_in _) (by first | assumption | omega | (constructor <;> omega) | (simp only [Int.toNat_natCast]; omega) | exact b2_in _) (by decide) (fun r37 => ?_)
      try simp only [Int.reduceToNat] at r37 ⊢
      refine AW.lload_n (pc' := 39) dX11_put_38 rfl ?_
      refine AW.invS2 (pc' := 42) dX11_put_39 mlX11_319 mX8_lowest (c_X8_lowest (dep := dep - 1) (by first | assumption | omega | (constructor <;> omega) | (simp only [Int.toNat_natCast]; omega) | exact b2_in _) (by first | assumption | omega | (constructor <;> omega) | (simp only [Int.toNat_natCast]; omega) | exact b2_in _)) ?_
      try simp only [Int.toNat_natCast, Int.reduceToNat]
      have lf := lowF_in (a := h 47 1) (v := v) (by assumption)
      first | refine AW.lastN (pc' := 43) dX11_put_42 ly_52 (by first | assumption | omega | (constructor <;> omega) | (simp only [Int.toNat_natCast]; omega) | exact b2_in _) (by decide) (by first | assumption | omega | (constructor <;> omega) | (simp only [Int.toNat_natCast]; omega) | exact b2_in _) ?_ | refine AW.last (pc' := 43) dX11_put_42 ly_52 (by first | assumption | omega | (constructor <;> omega) | (simp only [Int.toNat_natCast]; omega) | exact b2_in _) (by first | assumption | omega | (constructor <;> omega) | (simp only [Int.toNat_natCast]; omega) | exact b2_in _) (by decide) (by first | assumption | omega | (constructor <;> omega) | (simp only [Int.toNat_natCast]; omega) | exact b2_in _) ?_
      refine AW.iconst (pc' := 44) dX11_put_43 ?_
      refine AW.iret dX11_put_44 ?_ ?_
      · first | (rw [if_pos c13]) | (rw [if_neg c13])
      · first | (rw [if_pos c13]; rfl) | (rw [if_neg c13])
    by_cases v26_2 : a = 2
    · subst v26_2
      refine AW.iload_n (pc' := 27) dX11_put_26 rfl ?_
      try simp only [Int.reduceToNat] at w0
      refine AW.aaldL (pc' := 28) dX11_put_27 ly_50 (by decide) (by decide) (by decide) rfl ?_
      refine AW.iload_n (pc' := 29) dX11_put_28 rfl ?_
      refine AW.aload_n (pc' := 30) dX11_put_29 rfl ?_
      refine AW.getR (pc' := 33) dX11_put_30 ly_0 fX11_81 rfl ?_
      refine AW.getR (pc' := 36) dX11_put_33 ly_46 fX11_115 rfl ?_
      refine AW.iload_n (pc' := 37) dX11_put_36 rfl ?_
      first | refine AW.ialdN (pc' := 38) dX11_put_37 ly_47 (by first | assumption | omega | (constructor <;> omega) | (simp only [Int.toNat_natCast]; omega) | exact b2_in _) (by decide) (fun r37 => ?_) | refine AW.iald (pc' := 38) dX11_put_37 ly_47 (by first | assumption | omega | (constructor <;> omega) | (simp only [Int.toNat_natCast]; omega) | exact b2_in _) (by first | assumption | omega | (constructor <;> omega) | (simp only [Int.toNat_natCast]; omega) | exact b2_in _) (by decide) (fun r37 => ?_)
      try simp only [Int.reduceToNat] at r37 ⊢
      refine AW.lload_n (pc' := 39) dX11_put_38 rfl ?_
      refine AW.invS2 (pc' := 42) dX11_put_39 mlX11_319 mX8_lowest (c_X8_lowest (dep := dep - 1) (by first | assumption | omega | (constructor <;> omega) | (simp only [Int.toNat_natCast]; omega) | exact b2_in _) (by first | assumption | omega | (constructor <;> omega) | (simp only [Int.toNat_natCast]; omega) | exact b2_in _)) ?_
      try simp only [Int.toNat_natCast, Int.reduceToNat]
      have lf := lowF_in (a := h 47 2) (v := v) (by assumption)
      first | refine AW.lastN (pc' := 43) dX11_put_42 ly_53 (by first | assumption | omega | (constructor <;> omega) | (simp only [Int.toNat_natCast]; omega) | exact b2_in _) (by decide) (by first | assumption | omega | (constructor <;> omega) | (simp only [Int.toNat_natCast]; omega) | exact b2_in _) ?_ | refine AW.last (pc' := 43) dX11_put_42 ly_53 (by first | assumption | omega | (constructor <;> omega) | (simp only [Int.toNat_natCast]; omega) | exact b2_in _) (by first | assumption | omega | (constructor <;> omega) | (simp only [Int.toNat_natCast]; omega) | exact b2_in _) (by decide) (by first | assumption | omega | (constructor <;> omega) | (simp only [Int.toNat_natCast]; omega) | exact b2_in _) ?_
      refine AW.iconst (pc' := 44) dX11_put_43 ?_
      refine AW.iret dX11_put_44 ?_ ?_
      · first | (rw [if_pos c13]) | (rw [if_neg c13])
      · first | (rw [if_pos c13]; rfl) | (rw [if_neg c13])
    by_cases v26_3 : a = 3
    · subst v26_3
      refine AW.iload_n (pc' := 27) dX11_put_26 rfl ?_
      try simp only [Int.reduceToNat] at w0
      refine AW.aaldL (pc' := 28) dX11_put_27 ly_50 (by decide) (by decide) (by decide) rfl ?_
      refine AW.iload_n (pc' := 29) dX11_put_28 rfl ?_
      refine AW.aload_n (pc' := 30) dX11_put_29 rfl ?_
      refine AW.getR (pc' := 33) dX11_put_30 ly_0 fX11_81 rfl ?_
      refine AW.getR (pc' := 36) dX11_put_33 ly_46 fX11_115 rfl ?_
      refine AW.iload_n (pc' := 37) dX11_put_36 rfl ?_
      first | refine AW.ialdN (pc' := 38) dX11_put_37 ly_47 (by first | assumption | omega | (constructor <;> omega) | (simp only [Int.toNat_natCast]; omega) | exact b2_in _) (by decide) (fun r37 => ?_) | refine AW.iald (pc' := 38) dX11_put_37 ly_47 (by first | assumption | omega | (constructor <;> omega) | (simp only [Int.toNat_natCast]; omega) | exact b2_in _) (by first | assumption | omega | (constructor <;> omega) | (simp only [Int.toNat_natCast]; omega) | exact b2_in _) (by decide) (fun r37 => ?_)
      try simp only [Int.reduceToNat] at r37 ⊢
      refine AW.lload_n (pc' := 39) dX11_put_38 rfl ?_
      refine AW.invS2 (pc' := 42) dX11_put_39 mlX11_319 mX8_lowest (c_X8_lowest (dep := dep - 1) (by first | assumption | omega | (constructor <;> omega) | (simp only [Int.toNat_natCast]; omega) | exact b2_in _) (by first | assumption | omega | (constructor <;> omega) | (simp only [Int.toNat_natCast]; omega) | exact b2_in _)) ?_
      try simp only [Int.toNat_natCast, Int.reduceToNat]
      have lf := lowF_in (a := h 47 3) (v := v) (by assumption)
      first | refine AW.lastN (pc' := 43) dX11_put_42 ly_54 (by first | assumption | omega | (constructor <;> omega) | (simp only [Int.toNat_natCast]; omega) | exact b2_in _) (by decide) (by first | assumption | omega | (constructor <;> omega) | (simp only [Int.toNat_natCast]; omega) | exact b2_in _) ?_ | refine AW.last (pc' := 43) dX11_put_42 ly_54 (by first | assumption | omega | (constructor <;> omega) | (simp only [Int.toNat_natCast]; omega) | exact b2_in _) (by first | assumption | omega | (constructor <;> omega) | (simp only [Int.toNat_natCast]; omega) | exact b2_in _) (by decide) (by first | assumption | omega | (constructor <;> omega) | (simp only [Int.toNat_natCast]; omega) | exact b2_in _) ?_
      refine AW.iconst (pc' := 44) dX11_put_43 ?_
      refine AW.iret dX11_put_44 ?_ ?_
      · first | (rw [if_pos c13]) | (rw [if_neg c13])
      · first | (rw [if_pos c13]; rfl) | (rw [if_neg c13])
    by_cases v26_4 : a = 4
    · subst v26_4
      refine AW.iload_n (pc' := 27) dX11_put_26 rfl ?_
      try simp only [Int.reduceToNat] at w0
      refine AW.aaldL (pc' := 28) dX11_put_27 ly_50 (by decide) (by decide) (by decide) rfl ?_
      refine AW.iload_n (pc' := 29) dX11_put_28 rfl ?_
      refine AW.aload_n (pc' := 30) dX11_put_29 rfl ?_
      refine AW.getR (pc' := 33) dX11_put_30 ly_0 fX11_81 rfl ?_
      refine AW.getR (pc' := 36) dX11_put_33 ly_46 fX11_115 rfl ?_
      refine AW.iload_n (pc' := 37) dX11_put_36 rfl ?_
      first | refine AW.ialdN (pc' := 38) dX11_put_37 ly_47 (by first | assumption | omega | (constructor <;> omega) | (simp only [Int.toNat_natCast]; omega) | exact b2_in _) (by decide) (fun r37 => ?_) | refine AW.iald (pc' := 38) dX11_put_37 ly_47 (by first | assumption | omega | (constructor <;> omega) | (simp only [Int.toNat_natCast]; omega) | exact b2_in _) (by first | assumption | omega | (constructor <;> omega) | (simp only [Int.toNat_natCast]; omega) | exact b2_in _) (by decide) (fun r37 => ?_)
      try simp only [Int.reduceToNat] at r37 ⊢
      refine AW.lload_n (pc' := 39) dX11_put_38 rfl ?_
      refine AW.invS2 (pc' := 42) dX11_put_39 mlX11_319 mX8_lowest (c_X8_lowest (dep := dep - 1) (by first | assumption | omega | (constructor <;> omega) | (simp only [Int.toNat_natCast]; omega) | exact b2_in _) (by first | assumption | omega | (constructor <;> omega) | (simp only [Int.toNat_natCast]; omega) | exact b2_in _)) ?_
      try simp only [Int.toNat_natCast, Int.reduceToNat]
      have lf := lowF_in (a := h 47 4) (v := v) (by assumption)
      first | refine AW.lastN (pc' := 43) dX11_put_42 ly_55 (by first | assumption | omega | (constructor <;> omega) | (simp only [Int.toNat_natCast]; omega) | exact b2_in _) (by decide) (by first | assumption | omega | (constructor <;> omega) | (simp only [Int.toNat_natCast]; omega) | exact b2_in _) ?_ | refine AW.last (pc' := 43) dX11_put_42 ly_55 (by first | assumption | omega | (constructor <;> omega) | (simp only [Int.toNat_natCast]; omega) | exact b2_in _) (by first | assumption | omega | (constructor <;> omega) | (simp only [Int.toNat_natCast]; omega) | exact b2_in _) (by decide) (by first | assumption | omega | (constructor <;> omega) | (simp only [Int.toNat_natCast]; omega) | exact b2_in _) ?_
      refine AW.iconst (pc' := 44) dX11_put_43 ?_
      refine AW.iret dX11_put_44 ?_ ?_
      · first | (rw [if_pos c13]) | (rw [if_neg c13])
      · first | (rw [if_pos c13]; rfl) | (rw [if_neg c13])
    by_cases v26_5 : a = 5
    · subst v26_5
      refine AW.iload_n (pc' := 27) dX11_put_26 rfl ?_
      try simp only [Int.reduceToNat] at w0
      refine AW.aaldL (pc' := 28) dX11_put_27 ly_50 (by decide) (by decide) (by decide) rfl ?_
      refine AW.iload_n (pc' := 29) dX11_put_28 rfl ?_
      refine AW.aload_n (pc' := 30) dX11_put_29 rfl ?_
      refine AW.getR (pc' := 33) dX11_put_30 ly_0 fX11_81 rfl ?_
      refine AW.getR (pc' := 36) dX11_put_33 ly_46 fX11_115 rfl ?_
      refine AW.iload_n (pc' := 37) dX11_put_36 rfl ?_
      first | refine AW.ialdN (pc' := 38) dX11_put_37 ly_47 (by first | assumption | omega | (constructor <;> omega) | (simp only [Int.toNat_natCast]; omega) | exact b2_in _) (by decide) (fun r37 => ?_) | refine AW.iald (pc' := 38) dX11_put_37 ly_47 (by first | assumption | omega | (constructor <;> omega) | (simp only [Int.toNat_natCast]; omega) | exact b2_in _) (by first | assumption | omega | (constructor <;> omega) | (simp only [Int.toNat_natCast]; omega) | exact b2_in _) (by decide) (fun r37 => ?_)
      try simp only [Int.reduceToNat] at r37 ⊢
      refine AW.lload_n (pc' := 39) dX11_put_38 rfl ?_
      refine AW.invS2 (pc' := 42) dX11_put_39 mlX11_319 mX8_lowest (c_X8_lowest (dep := dep - 1) (by first | assumption | omega | (constructor <;> omega) | (simp only [Int.toNat_natCast]; omega) | exact b2_in _) (by first | assumption | omega | (constructor <;> omega) | (simp only [Int.toNat_natCast]; omega) | exact b2_in _)) ?_
      try simp only [Int.toNat_natCast, Int.reduceToNat]
      have lf := lowF_in (a := h 47 5) (v := v) (by assumption)
      first | refine AW.lastN (pc' := 43) dX11_put_42 ly_56 (by first | assumption | omega | (constructor <;> omega) | (simp only [Int.toNat_natCast]; omega) | exact b2_in _) (by decide) (by first | assumption | omega | (constructor <;> omega) | (simp only [Int.toNat_natCast]; omega) | exact b2_in _) ?_ | refine AW.last (pc' := 43) dX11_put_42 ly_56 (by first | assumption | omega | (constructor <;> omega) | (simp only [Int.toNat_natCast]; omega) | exact b2_in _) (by first | assumption | omega | (constructor <;> omega) | (simp only [Int.toNat_natCast]; omega) | exact b2_in _) (by decide) (by first | assumption | omega | (constructor <;> omega) | (simp only [Int.toNat_natCast]; omega) | exact b2_in _) ?_
      refine AW.iconst (pc' := 44) dX11_put_43 ?_
      refine AW.iret dX11_put_44 ?_ ?_
      · first | (rw [if_pos c13]) | (rw [if_neg c13])
      · first | (rw [if_pos c13]; rfl) | (rw [if_neg c13])
    exfalso
    omega
  · refine AW.iload (pc' := 18) dX11_put_16 rfl ?_
    refine AW.iret dX11_put_18 ?_ ?_
    · first | (rw [if_pos c13]) | (rw [if_neg c13])
    · first | (rw [if_pos c13]; rfl) | (rw [if_neg c13])
set_option maxRecDepth 100000 in
set_option maxHeartbeats 4000000 in
theorem c_X11_element {K : KT} {dep : Nat} {h : Hp} {a b : Int} (hd : 2 ≤ dep) (qp : PShe (h 47) (h 49)) (q1 : inI a) (q2 : inI b) : AM K yX11_element cX11_element 3 (some .long) dep [vR 0, vI a, vI b] h (some (vL (if whyX (h 47) (h 49) a b = 0 then h (51 + a.toNat) b.toNat else -9223372036854775808))) (h) := by
  refine AM.of (own := RX11) (ls := [some (vR 0), some (vI a), some (vI b)]) rfl (by decide +kernel) (by exact Nat.le_of_ble_eq_true rfl) rfl (fun hO => ?_)
  refine AW.aload_n (pc' := 1) dX11_element_0 rfl ?_
  refine AW.getR (pc' := 4) dX11_element_1 ly_0 fX11_81 rfl ?_
  refine AW.iload_n (pc' := 5) dX11_element_4 rfl ?_
  refine AW.iload_n (pc' := 6) dX11_element_5 rfl ?_
  refine AW.invV2 (pc' := 9) dX11_element_6 mlX11_316 mX8_refuses ly_46 rfl (c_X8_refuses (dep := dep - 1) (by first | assumption | omega | (constructor <;> omega) | (simp only [Int.toNat_natCast]; omega) | exact b2_in _) (by first | assumption | omega | (constructor <;> omega) | (simp only [Int.toNat_natCast]; omega) | exact b2_in _) (by first | assumption | omega | (constructor <;> omega) | (simp only [Int.toNat_natCast]; omega) | exact b2_in _)) ?_
  try simp only [Int.toNat_natCast, Int.reduceToNat]
  rw [show (if ¬ (0 ≤ a ∧ a < 6) then (-1 : Int) else if h 47 a.toNat = 6 then -11 else if h 47 a.toNat = 5 then -12 else if 0 ≤ b ∧ b + 1 ≤ h 49 a.toNat then 0 else -13) = whyX (h 47) (h 49) a b from rfl]
  have wi := whyX_in (h 47) (h 49) a b
  refine AW.if_eq (tgt := 18) (pc' := 12) dX11_element_9 (by first | assumption | omega | (constructor <;> omega) | (simp only [Int.toNat_natCast]; omega) | exact b2_in _) (fun c9 => ?_) (fun c9 => ?_)
  · have w0 := whyX_0 qp c9
    refine AW.aload_n (pc' := 19) dX11_element_18 rfl ?_
    refine AW.getR (pc' := 22) dX11_element_19 ly_0 fX11_81 rfl ?_
    refine AW.getR (pc' := 25) dX11_element_22 ly_46 fX11_128 rfl ?_
    by_cases v25_0 : a = 0
    · subst v25_0
      refine AW.iload_n (pc' := 26) dX11_element_25 rfl ?_
      refine AW.aaldL (pc' := 27) dX11_element_26 ly_50 (by decide) (by decide) (by decide) rfl ?_
      try simp only [Int.reduceToNat] at w0
      refine AW.iload_n (pc' := 28) dX11_element_27 rfl ?_
      first | refine AW.laldN (pc' := 29) dX11_element_28 ly_51 (by first | assumption | omega | (constructor <;> omega) | (simp only [Int.toNat_natCast]; omega) | exact b2_in _) (by decide) (fun r28 => ?_) | refine AW.lald (pc' := 29) dX11_element_28 ly_51 (by first | assumption | omega | (constructor <;> omega) | (simp only [Int.toNat_natCast]; omega) | exact b2_in _) (by first | assumption | omega | (constructor <;> omega) | (simp only [Int.toNat_natCast]; omega) | exact b2_in _) (by decide) (fun r28 => ?_)
      try simp only [Int.reduceToNat] at r28 ⊢
      refine AW.lret dX11_element_29 ?_ ?_
      · first | (rw [if_pos c9]; rfl) | (rw [if_neg c9])
      · rfl
    by_cases v25_1 : a = 1
    · subst v25_1
      refine AW.iload_n (pc' := 26) dX11_element_25 rfl ?_
      refine AW.aaldL (pc' := 27) dX11_element_26 ly_50 (by decide) (by decide) (by decide) rfl ?_
      try simp only [Int.reduceToNat] at w0
      refine AW.iload_n (pc' := 28) dX11_element_27 rfl ?_
      first | refine AW.laldN (pc' := 29) dX11_element_28 ly_52 (by first | assumption | omega | (constructor <;> omega) | (simp only [Int.toNat_natCast]; omega) | exact b2_in _) (by decide) (fun r28 => ?_) | refine AW.lald (pc' := 29) dX11_element_28 ly_52 (by first | assumption | omega | (constructor <;> omega) | (simp only [Int.toNat_natCast]; omega) | exact b2_in _) (by first | assumption | omega | (constructor <;> omega) | (simp only [Int.toNat_natCast]; omega) | exact b2_in _) (by decide) (fun r28 => ?_)
      try simp only [Int.reduceToNat] at r28 ⊢
      refine AW.lret dX11_element_29 ?_ ?_
      · first | (rw [if_pos c9]; rfl) | (rw [if_neg c9])
      · rfl
    by_cases v25_2 : a = 2
    · subst v25_2
      refine AW.iload_n (pc' := 26) dX11_element_25 rfl ?_
      refine AW.aaldL (pc' := 27) dX11_element_26 ly_50 (by decide) (by decide) (by decide) rfl ?_
      try simp only [Int.reduceToNat] at w0
      refine AW.iload_n (pc' := 28) dX11_element_27 rfl ?_
      first | refine AW.laldN (pc' := 29) dX11_element_28 ly_53 (by first | assumption | omega | (constructor <;> omega) | (simp only [Int.toNat_natCast]; omega) | exact b2_in _) (by decide) (fun r28 => ?_) | refine AW.lald (pc' := 29) dX11_element_28 ly_53 (by first | assumption | omega | (constructor <;> omega) | (simp only [Int.toNat_natCast]; omega) | exact b2_in _) (by first | assumption | omega | (constructor <;> omega) | (simp only [Int.toNat_natCast]; omega) | exact b2_in _) (by decide) (fun r28 => ?_)
      try simp only [Int.reduceToNat] at r28 ⊢
      refine AW.lret dX11_element_29 ?_ ?_
      · first | (rw [if_pos c9]; rfl) | (rw [if_neg c9])
      · rfl
    by_cases v25_3 : a = 3
    · subst v25_3
      refine AW.iload_n (pc' := 26) dX11_element_25 rfl ?_
      refine AW.aaldL (pc' := 27) dX11_element_26 ly_50 (by decide) (by decide) (by decide) rfl ?_
      try simp only [Int.reduceToNat] at w0
      refine AW.iload_n (pc' := 28) dX11_element_27 rfl ?_
      first | refine AW.laldN (pc' := 29) dX11_element_28 ly_54 (by first | assumption | omega | (constructor <;> omega) | (simp only [Int.toNat_natCast]; omega) | exact b2_in _) (by decide) (fun r28 => ?_) | refine AW.lald (pc' := 29) dX11_element_28 ly_54 (by first | assumption | omega | (constructor <;> omega) | (simp only [Int.toNat_natCast]; omega) | exact b2_in _) (by first | assumption | omega | (constructor <;> omega) | (simp only [Int.toNat_natCast]; omega) | exact b2_in _) (by decide) (fun r28 => ?_)
      try simp only [Int.reduceToNat] at r28 ⊢
      refine AW.lret dX11_element_29 ?_ ?_
      · first | (rw [if_pos c9]; rfl) | (rw [if_neg c9])
      · rfl
    by_cases v25_4 : a = 4
    · subst v25_4
      refine AW.iload_n (pc' := 26) dX11_element_25 rfl ?_
      refine AW.aaldL (pc' := 27) dX11_element_26 ly_50 (by decide) (by decide) (by decide) rfl ?_
      try simp only [Int.reduceToNat] at w0
      refine AW.iload_n (pc' := 28) dX11_element_27 rfl ?_
      first | refine AW.laldN (pc' := 29) dX11_element_28 ly_55 (by first | assumption | omega | (constructor <;> omega) | (simp only [Int.toNat_natCast]; omega) | exact b2_in _) (by decide) (fun r28 => ?_) | refine AW.lald (pc' := 29) dX11_element_28 ly_55 (by first | assumption | omega | (constructor <;> omega) | (simp only [Int.toNat_natCast]; omega) | exact b2_in _) (by first | assumption | omega | (constructor <;> omega) | (simp only [Int.toNat_natCast]; omega) | exact b2_in _) (by decide) (fun r28 => ?_)
      try simp only [Int.reduceToNat] at r28 ⊢
      refine AW.lret dX11_element_29 ?_ ?_
      · first | (rw [if_pos c9]; rfl) | (rw [if_neg c9])
      · rfl
    by_cases v25_5 : a = 5
    · subst v25_5
      refine AW.iload_n (pc' := 26) dX11_element_25 rfl ?_
      refine AW.aaldL (pc' := 27) dX11_element_26 ly_50 (by decide) (by decide) (by decide) rfl ?_
      try simp only [Int.reduceToNat] at w0
      refine AW.iload_n (pc' := 28) dX11_element_27 rfl ?_
      first | refine AW.laldN (pc' := 29) dX11_element_28 ly_56 (by first | assumption | omega | (constructor <;> omega) | (simp only [Int.toNat_natCast]; omega) | exact b2_in _) (by decide) (fun r28 => ?_) | refine AW.lald (pc' := 29) dX11_element_28 ly_56 (by first | assumption | omega | (constructor <;> omega) | (simp only [Int.toNat_natCast]; omega) | exact b2_in _) (by first | assumption | omega | (constructor <;> omega) | (simp only [Int.toNat_natCast]; omega) | exact b2_in _) (by decide) (fun r28 => ?_)
      try simp only [Int.reduceToNat] at r28 ⊢
      refine AW.lret dX11_element_29 ?_ ?_
      · first | (rw [if_pos c9]; rfl) | (rw [if_neg c9])
      · rfl
    exfalso
    omega
  · refine AW.ldc2 (v := -9223372036854775808) (pc' := 15) dX11_element_12 klX11_325 ?_
    refine AW.goto (tgt := 29) dX11_element_15 ?_
    refine AW.lret dX11_element_29 ?_ ?_
    · first | (rw [if_pos c9]; rfl) | (rw [if_neg c9])
    · rfl
set_option maxRecDepth 100000 in
set_option maxHeartbeats 4000000 in
theorem c_X12_put {K : KT} {dep : Nat} {h : Hp} {a b v : Int} (hd : 2 ≤ dep) (qp : PSheM (h 86) (h 88)) (q1 : inI a) (q2 : inI b) (q3 : inL v) : AM K yX12_put cX12_put 6 (some .int) dep [vR 57, vI a, vI b, vL v] h (some (vI (whyM (h 86) (h 88) a b))) (if whyM (h 86) (h 88) a b = 1 then hset h 89 (60 * a + b).toNat (lowF (h 86 a.toNat) v) else h) := by
  refine AM.of (own := RX12) (ls := [some (vR 57), some (vI a), some (vI b), some (vL v), none, none]) rfl (by decide +kernel) (by exact Nat.le_of_ble_eq_true rfl) rfl (fun hO => ?_)
  refine AW.aload_n (pc' := 1) dX12_put_0 rfl ?_
  refine AW.iload_n (pc' := 2) dX12_put_1 rfl ?_
  refine AW.iload_n (pc' := 3) dX12_put_2 rfl ?_
  refine AW.invV2 (pc' := 6) dX12_put_3 mlX12_363 mX12_why ly_57 rfl (c_X12_why (dep := dep - 1) (by first | assumption | omega | (constructor <;> omega) | (simp only [Int.toNat_natCast]; omega) | exact b2_in _) (by first | assumption | omega | (constructor <;> omega) | (simp only [Int.toNat_natCast]; omega) | exact b2_in _) (by first | assumption | omega | (constructor <;> omega) | (simp only [Int.toNat_natCast]; omega) | exact b2_in _)) ?_
  rw [show (if ¬ (0 ≤ a ∧ a < 6) then (-1 : Int) else if h 86 a.toNat = -2 then -11 else if h 86 a.toNat = -1 then -12 else if 0 ≤ b ∧ b < h 88 a.toNat then 1 else -13) = whyM (h 86) (h 88) a b from rfl]
  have wi := whyM_in (h 86) (h 88) a b
  refine AW.istore5 (pc' := 8) dX12_put_6 (by decide) rfl ?_
  refine AW.iload (pc' := 10) dX12_put_8 rfl ?_
  refine AW.iconst (pc' := 11) dX12_put_10 ?_
  refine AW.icmp_ne (tgt := 35) (pc' := 14) dX12_put_11 (by first | assumption | omega | (constructor <;> omega) | (simp only [Int.toNat_natCast]; omega) | exact b2_in _) (by first | assumption | omega | (constructor <;> omega) | (simp only [Int.toNat_natCast]; omega) | exact b2_in _) (fun c11 => ?_) (fun c11 => ?_)
  · refine AW.iload (pc' := 37) dX12_put_35 rfl ?_
    refine AW.iret dX12_put_37 ?_ ?_
    · rfl
    · first | (rw [if_pos c11]) | (rw [if_neg c11])
  · have w0 := whyM_1 qp c11
    have lf := lowF_in (a := h 86 a.toNat) (v := v) (by assumption)
    refine AW.aload_n (pc' := 15) dX12_put_14 rfl ?_
    refine AW.getR (pc' := 18) dX12_put_15 ly_57 fX12_107 rfl ?_
    refine AW.bipush (pc' := 20) dX12_put_18 (by decide) ?_
    refine AW.iload_n (pc' := 21) dX12_put_20 rfl ?_
    refine AW.imul (pc' := 22) dX12_put_21 ?_
    refine AW.iload_n (pc' := 23) dX12_put_22 rfl ?_
    refine AW.iadd (pc' := 24) dX12_put_23 ?_
    refine AW.aload_n (pc' := 25) dX12_put_24 rfl ?_
    refine AW.getR (pc' := 28) dX12_put_25 ly_57 fX12_98 rfl ?_
    refine AW.iload_n (pc' := 29) dX12_put_28 rfl ?_
    first | refine AW.ialdN (pc' := 30) dX12_put_29 ly_86 (by first | assumption | omega | (constructor <;> omega) | (simp only [Int.toNat_natCast]; omega) | exact b2_in _) (by decide) (fun r29 => ?_) | refine AW.iald (pc' := 30) dX12_put_29 ly_86 (by first | assumption | omega | (constructor <;> omega) | (simp only [Int.toNat_natCast]; omega) | exact b2_in _) (by first | assumption | omega | (constructor <;> omega) | (simp only [Int.toNat_natCast]; omega) | exact b2_in _) (by decide) (fun r29 => ?_)
    refine AW.lload_n (pc' := 31) dX12_put_30 rfl ?_
    refine AW.invS2 (pc' := 34) dX12_put_31 mlX12_366 mX12_kept (c_X12_kept (dep := dep - 1) (by first | assumption | omega | (constructor <;> omega) | (simp only [Int.toNat_natCast]; omega) | exact b2_in _) (by first | assumption | omega | (constructor <;> omega) | (simp only [Int.toNat_natCast]; omega) | exact b2_in _)) ?_
    first | refine AW.lastN (pc' := 35) dX12_put_34 ly_89 (by first | assumption | omega | (constructor <;> omega) | (simp only [Int.toNat_natCast]; omega) | exact b2_in _) (by decide) (by first | assumption | omega | (constructor <;> omega) | (simp only [Int.toNat_natCast]; omega) | exact b2_in _) ?_ | refine AW.last (pc' := 35) dX12_put_34 ly_89 (by first | assumption | omega | (constructor <;> omega) | (simp only [Int.toNat_natCast]; omega) | exact b2_in _) (by first | assumption | omega | (constructor <;> omega) | (simp only [Int.toNat_natCast]; omega) | exact b2_in _) (by decide) (by first | assumption | omega | (constructor <;> omega) | (simp only [Int.toNat_natCast]; omega) | exact b2_in _) ?_
    refine AW.iload (pc' := 37) dX12_put_35 rfl ?_
    refine AW.iret dX12_put_37 ?_ ?_
    · rfl
    · first | (rw [if_pos c11]) | (rw [if_neg c11])
set_option maxRecDepth 100000 in
set_option maxHeartbeats 4000000 in
theorem c_X12_element {K : KT} {dep : Nat} {h : Hp} {a b : Int} (hd : 2 ≤ dep) (qp : PSheM (h 86) (h 88)) (q1 : inI a) (q2 : inI b) : AM K yX12_element cX12_element 3 (some .long) dep [vR 57, vI a, vI b] h (some (vL (if whyM (h 86) (h 88) a b = 1 then h 89 (60 * a + b).toNat else -9223372036854775808))) (h) := by
  refine AM.of (own := RX12) (ls := [some (vR 57), some (vI a), some (vI b)]) rfl (by decide +kernel) (by exact Nat.le_of_ble_eq_true rfl) rfl (fun hO => ?_)
  refine AW.aload_n (pc' := 1) dX12_element_0 rfl ?_
  refine AW.iload_n (pc' := 2) dX12_element_1 rfl ?_
  refine AW.iload_n (pc' := 3) dX12_element_2 rfl ?_
  refine AW.invV2 (pc' := 6) dX12_element_3 mlX12_363 mX12_why ly_57 rfl (c_X12_why (dep := dep - 1) (by first | assumption | omega | (constructor <;> omega) | (simp only [Int.toNat_natCast]; omega) | exact b2_in _) (by first | assumption | omega | (constructor <;> omega) | (simp only [Int.toNat_natCast]; omega) | exact b2_in _) (by first | assumption | omega | (constructor <;> omega) | (simp only [Int.toNat_natCast]; omega) | exact b2_in _)) ?_
  rw [show (if ¬ (0 ≤ a ∧ a < 6) then (-1 : Int) else if h 86 a.toNat = -2 then -11 else if h 86 a.toNat = -1 then -12 else if 0 ≤ b ∧ b < h 88 a.toNat then 1 else -13) = whyM (h 86) (h 88) a b from rfl]
  have wi := whyM_in (h 86) (h 88) a b
  refine AW.iconst (pc' := 7) dX12_element_6 ?_
  refine AW.icmp_ne (tgt := 24) (pc' := 10) dX12_element_7 (by first | assumption | omega | (constructor <;> omega) | (simp only [Int.toNat_natCast]; omega) | exact b2_in _) (by first | assumption | omega | (constructor <;> omega) | (simp only [Int.toNat_natCast]; omega) | exact b2_in _) (fun c7 => ?_) (fun c7 => ?_)
  · refine AW.ldc2 (v := -9223372036854775808) (pc' := 27) dX12_element_24 klX12_370 ?_
    refine AW.lret dX12_element_27 ?_ ?_
    · first | (rw [if_pos c7]) | (rw [if_neg c7])
    · rfl
  · have w0 := whyM_1 qp c7
    refine AW.aload_n (pc' := 11) dX12_element_10 rfl ?_
    refine AW.getR (pc' := 14) dX12_element_11 ly_57 fX12_107 rfl ?_
    refine AW.bipush (pc' := 16) dX12_element_14 (by decide) ?_
    refine AW.iload_n (pc' := 17) dX12_element_16 rfl ?_
    refine AW.imul (pc' := 18) dX12_element_17 ?_
    refine AW.iload_n (pc' := 19) dX12_element_18 rfl ?_
    refine AW.iadd (pc' := 20) dX12_element_19 ?_
    first | refine AW.laldN (pc' := 21) dX12_element_20 ly_89 (by first | assumption | omega | (constructor <;> omega) | (simp only [Int.toNat_natCast]; omega) | exact b2_in _) (by decide) (fun r20 => ?_) | refine AW.lald (pc' := 21) dX12_element_20 ly_89 (by first | assumption | omega | (constructor <;> omega) | (simp only [Int.toNat_natCast]; omega) | exact b2_in _) (by first | assumption | omega | (constructor <;> omega) | (simp only [Int.toNat_natCast]; omega) | exact b2_in _) (by decide) (fun r20 => ?_)
    refine AW.goto (tgt := 27) dX12_element_21 ?_
    refine AW.lret dX12_element_27 ?_ ?_
    · first | (rw [if_pos c7]) | (rw [if_neg c7])
    · rfl
