/-! acts: the reference; taken, both -/
def puM (h : Hp) (v : Int) : Hp := hset (if h 57 53 < 24 then hset h 85 (h 57 53).toNat v else h) 57 53 (h 57 53 + 1)
def bgM : List Int → Hp → Hp
  | [], h => h
  | v :: r, h => bgM r (puM h v)
theorem bgM_app (A B : List Int) : ∀ h : Hp, bgM (A ++ B) h = bgM B (bgM A h) := by
  induction A with
  | nil => intro h; rfl
  | cons v r ih => intro h; exact ih (puM h v)
theorem puM_other {h : Hp} {v : Int} {k : Nat} (h1 : k ≠ 57) (h2 : k ≠ 85) : puM h v k = h k := by
  unfold puM
  rw [hset_other k h1]
  split
  · rw [hset_other k h2]
  · rfl
theorem bgM_other {k : Nat} (h1 : k ≠ 57) (h2 : k ≠ 85) : ∀ (L : List Int) (h : Hp), bgM L h k = h k
  | [], h => rfl
  | v :: r, h => by
    show bgM r (puM h v) k = h k
    rw [bgM_other h1 h2 r, puM_other h1 h2]
theorem puM_ran (h : Hp) (v : Int) : puM h v 57 53 = h 57 53 + 1 := by unfold puM; exact hset_same _ _ _ _
theorem bgM_ran : ∀ (L : List Int) (h : Hp), bgM L h 57 53 = h 57 53 + L.length
  | [], h => by simp [bgM]
  | v :: r, h => by
    show bgM r (puM h v) 57 53 = _
    rw [bgM_ran r, puM_ran]
    simp only [List.length_cons]
    push_cast
    omega
def gvF (k n x : Int) : Int := if k = 1 then x + n + 3 else if k = 3 then x + 1 + n + 3 else if k = 6 then (x + n) * 2 else x + n
def gvL (k : Int) : List Int := if k = 1 then [20, 1] else if k = 3 then [41, 20, 1] else if k = 6 then [70, 1] else [1]
def paF (k n x : Int) : Int := if k = 3 then xorI x n * 3 else if k = 4 ∨ k = 7 then xorI x n - gvF k n 2 else xorI x n
def paL (k : Int) : List Int := if k = 3 then [40, 11] else if k = 4 ∨ k = 7 then 50 :: 11 :: gvL k else [11]
def chF (k n x : Int) : Int := if k = 2 ∨ k = 5 then -(gvF k n x * 2) else if k = 7 then gvF k n x * 2 + paF k n 2 else gvF k n x * 2
def chL (k : Int) : List Int := if k = 2 ∨ k = 5 then 30 :: 10 :: gvL k else if k = 7 then 80 :: 10 :: (gvL k ++ paL k) else 10 :: gvL k
def teF (k n x : Int) : Int := if k = 5 then xorI (chF k n x - paF k n 1) 5 else if k = 7 then chF k n x - paF k n 1 - 1 else chF k n x - paF k n 1
def teL (k : Int) : List Int := if k = 5 then 60 :: 2 :: (chL k ++ paL k) else if k = 7 then 81 :: 2 :: (chL k ++ paL k) else 2 :: (chL k ++ paL k)
theorem gvL_len (k : Int) : (gvL k).length ≤ 3 := by unfold gvL; (repeat' split) <;> decide
theorem paL_len (k : Int) : (paL k).length ≤ 5 := by unfold paL; have := gvL_len k; (repeat' split) <;> simp only [List.length_cons, List.length_nil] <;> omega
theorem chL_len (k : Int) : (chL k).length ≤ 10 := by unfold chL; have := gvL_len k; have := paL_len k; (repeat' split) <;> simp only [List.length_cons, List.length_append] <;> omega
set_option maxRecDepth 100000 in
set_option maxHeartbeats 4000000 in
theorem c_X12_begins {K : KT} {dep : Nat} {h : Hp} {a : Int}  (q0 : 0 ≤ h 57 53 ∧ h 57 53 ≤ 2000) (q1 : inI a) : AM K yX12_begins cX12_begins 2 none dep [vR 57, vI a] h none (puM h a) := by
  refine AM.of (own := RX12) (ls := [some (vR 57), some (vI a)]) rfl (by decide +kernel) (by exact Nat.le_of_ble_eq_true rfl) rfl (fun hO => ?_)
  refine AW.aload_n (pc' := 1) dX12_begins_0 rfl ?_
  refine AW.getI (pc' := 4) dX12_begins_1 ly_57 fX12_342 rfl (fun r1 => ?_)
  refine AW.bipush (pc' := 6) dX12_begins_4 (by decide) ?_
  refine AW.icmp_ge (tgt := 19) (pc' := 9) dX12_begins_6 (by first | assumption | omega | (constructor <;> omega) | (simp only [Int.toNat_natCast]; omega) | exact b2_in _) (by first | assumption | omega | (constructor <;> omega) | (simp only [Int.toNat_natCast]; omega) | exact b2_in _) (fun c6 => ?_) (fun c6 => ?_)
  · refine AW.aload_n (pc' := 20) dX12_begins_19 rfl ?_
    refine AW.dup (pc' := 21) dX12_begins_20 rfl ?_
    refine AW.getI (pc' := 24) dX12_begins_21 ly_57 fX12_342 rfl (fun r21 => ?_)
    refine AW.iconst (pc' := 25) dX12_begins_24 ?_
    refine AW.iadd (pc' := 26) dX12_begins_25 ?_
    refine AW.putI (pc' := 29) dX12_begins_26 ly_57 pX12_342 rfl (by first | assumption | omega | (constructor <;> omega) | (simp only [Int.toNat_natCast]; omega) | exact b2_in _) ?_
    refine AW.vret dX12_begins_29 ?_ ?_
    · rfl
    · unfold puM
      first | (rw [if_pos (by omega)]; done) | (rw [if_neg (by omega)])
  · refine AW.aload_n (pc' := 10) dX12_begins_9 rfl ?_
    refine AW.getR (pc' := 13) dX12_begins_10 ly_57 fX12_95 rfl ?_
    refine AW.aload_n (pc' := 14) dX12_begins_13 rfl ?_
    refine AW.getI (pc' := 17) dX12_begins_14 ly_57 fX12_342 rfl (fun r14 => ?_)
    refine AW.iload_n (pc' := 18) dX12_begins_17 rfl ?_
    first | refine AW.iastN (pc' := 19) dX12_begins_18 ly_85 (by first | assumption | omega | (constructor <;> omega) | (simp only [Int.toNat_natCast]; omega) | exact b2_in _) (by decide) (by first | assumption | omega | (constructor <;> omega) | (simp only [Int.toNat_natCast]; omega) | exact b2_in _) ?_ | refine AW.iast (pc' := 19) dX12_begins_18 ly_85 (by first | assumption | omega | (constructor <;> omega) | (simp only [Int.toNat_natCast]; omega) | exact b2_in _) (by first | assumption | omega | (constructor <;> omega) | (simp only [Int.toNat_natCast]; omega) | exact b2_in _) (by decide) (by first | assumption | omega | (constructor <;> omega) | (simp only [Int.toNat_natCast]; omega) | exact b2_in _) ?_
    refine AW.aload_n (pc' := 20) dX12_begins_19 rfl ?_
    refine AW.dup (pc' := 21) dX12_begins_20 rfl ?_
    refine AW.getI (pc' := 24) dX12_begins_21 ly_57 fX12_342 rfl (fun r21 => ?_)
    try simp only [hset_app, Nat.reduceEqDiff, false_and, and_false, true_and, and_true, reduceIte] at r21 ⊢
    refine AW.iconst (pc' := 25) dX12_begins_24 ?_
    refine AW.iadd (pc' := 26) dX12_begins_25 ?_
    refine AW.putI (pc' := 29) dX12_begins_26 ly_57 pX12_342 rfl (by first | assumption | omega | (constructor <;> omega) | (simp only [Int.toNat_natCast]; omega) | exact b2_in _) ?_
    refine AW.vret dX12_begins_29 ?_ ?_
    · rfl
    · unfold puM
      first | (rw [if_pos (by omega)]; done) | (rw [if_neg (by omega)])
set_option maxRecDepth 100000 in
set_option maxHeartbeats 4000000 in
theorem c_X12_givesOf {K : KT} {dep : Nat} {h : Hp} {a b c : Int} (hd : 1 ≤ dep) (qk : 0 ≤ a ∧ a ≤ 7) (qr : 0 ≤ h 57 53 ∧ h 57 53 ≤ 1900) : AM K yX12_givesOf cX12_givesOf 5 (some .int) dep [vR 57, vI a, vI b, vI c] h (some (vI (gvF a b c))) (bgM (gvL a) h) := by
  refine AM.of (own := RX12) (ls := [some (vR 57), some (vI a), some (vI b), some (vI c), none]) rfl (by decide +kernel) (by exact Nat.le_of_ble_eq_true rfl) rfl (fun hO => ?_)
  have kk : a = 0 ∨ a = 1 ∨ a = 2 ∨ a = 3 ∨ a = 4 ∨ a = 5 ∨ a = 6 ∨ a = 7 := by omega
  have ll := gvL_len a
  have l2 := paL_len a
  have l3 := chL_len a
  refine AW.iload_n (pc' := 1) dX12_givesOf_0 rfl ?_
  refine AW.istore4 (pc' := 3) dX12_givesOf_1 (by decide) rfl ?_
  refine AW.iload_n (pc' := 4) dX12_givesOf_3 rfl ?_
  refine AW.iconst (pc' := 5) dX12_givesOf_4 ?_
  refine AW.icmp_ne (tgt := 17) (pc' := 8) dX12_givesOf_5 (by first | assumption | omega | (constructor <;> omega) | (simp only [Int.toNat_natCast]; omega) | exact b2_in _) (by first | assumption | omega | (constructor <;> omega) | (simp only [Int.toNat_natCast]; omega) | exact b2_in _) (fun c5 => ?_) (fun c5 => ?_)
  · refine AW.iload_n (pc' := 18) dX12_givesOf_17 rfl ?_
    refine AW.iconst (pc' := 19) dX12_givesOf_18 ?_
    refine AW.icmp_eq (tgt := 27) (pc' := 22) dX12_givesOf_19 (by first | assumption | omega | (constructor <;> omega) | (simp only [Int.toNat_natCast]; omega) | exact b2_in _) (by first | assumption | omega | (constructor <;> omega) | (simp only [Int.toNat_natCast]; omega) | exact b2_in _) (fun c19 => ?_) (fun c19 => ?_)
    · refine AW.aload_n (pc' := 28) dX12_givesOf_27 rfl ?_
      refine AW.bipush (pc' := 30) dX12_givesOf_28 (by decide) ?_
      refine AW.invV1v (pc' := 33) dX12_givesOf_30 mlX12_345 mX12_begins ly_57 rfl (c_X12_begins (dep := dep - 1) (a := 20) (by first | omega | (simp only [puM_ran, bgM_ran]; omega)) (by decide)) ?_
      refine AW.iload_n (pc' := 34) dX12_givesOf_33 rfl ?_
      refine AW.bipush (pc' := 36) dX12_givesOf_34 (by decide) ?_
      refine AW.icmp_ne (tgt := 45) (pc' := 39) dX12_givesOf_36 (by first | assumption | omega | (constructor <;> omega) | (simp only [Int.toNat_natCast]; omega) | exact b2_in _) (by first | assumption | omega | (constructor <;> omega) | (simp only [Int.toNat_natCast]; omega) | exact b2_in _) (fun c36 => ?_) (fun c36 => ?_)
      · refine AW.aload_n (pc' := 46) dX12_givesOf_45 rfl ?_
        refine AW.iconst (pc' := 47) dX12_givesOf_46 ?_
        refine AW.invV1v (pc' := 50) dX12_givesOf_47 mlX12_345 mX12_begins ly_57 rfl (c_X12_begins (dep := dep - 1) (a := 1) (by first | omega | (simp only [puM_ran, bgM_ran]; omega)) (by decide)) ?_
        refine AW.iload (pc' := 52) dX12_givesOf_50 rfl ?_
        refine AW.iload_n (pc' := 53) dX12_givesOf_52 rfl ?_
        refine AW.iadd (pc' := 54) dX12_givesOf_53 ?_
        refine AW.istore4 (pc' := 56) dX12_givesOf_54 (by decide) rfl ?_
        refine AW.iload_n (pc' := 57) dX12_givesOf_56 rfl ?_
        refine AW.iconst (pc' := 58) dX12_givesOf_57 ?_
        refine AW.icmp_eq (tgt := 66) (pc' := 61) dX12_givesOf_58 (by first | assumption | omega | (constructor <;> omega) | (simp only [Int.toNat_natCast]; omega) | exact b2_in _) (by first | assumption | omega | (constructor <;> omega) | (simp only [Int.toNat_natCast]; omega) | exact b2_in _) (fun c58 => ?_) (fun c58 => ?_)
        · refine AW.iload (pc' := 68) dX12_givesOf_66 rfl ?_
          refine AW.iconst (pc' := 69) dX12_givesOf_68 ?_
          refine AW.iadd (pc' := 70) dX12_givesOf_69 ?_
          refine AW.goto (tgt := 88) dX12_givesOf_70 ?_
          refine AW.iret dX12_givesOf_88 ?_ ?_
          all_goals first | omega | (rcases kk with rfl | rfl | rfl | rfl | rfl | rfl | rfl | rfl <;> first | omega | rfl)
        · refine AW.iload_n (pc' := 62) dX12_givesOf_61 rfl ?_
          refine AW.iconst (pc' := 63) dX12_givesOf_62 ?_
          refine AW.icmp_ne (tgt := 73) (pc' := 66) dX12_givesOf_63 (by first | assumption | omega | (constructor <;> omega) | (simp only [Int.toNat_natCast]; omega) | exact b2_in _) (by first | assumption | omega | (constructor <;> omega) | (simp only [Int.toNat_natCast]; omega) | exact b2_in _) (fun c63 => ?_) (fun c63 => ?_)
          · refine AW.iload_n (pc' := 74) dX12_givesOf_73 rfl ?_
            refine AW.bipush (pc' := 76) dX12_givesOf_74 (by decide) ?_
            refine AW.icmp_ne (tgt := 86) (pc' := 79) dX12_givesOf_76 (by first | assumption | omega | (constructor <;> omega) | (simp only [Int.toNat_natCast]; omega) | exact b2_in _) (by first | assumption | omega | (constructor <;> omega) | (simp only [Int.toNat_natCast]; omega) | exact b2_in _) (fun c76 => ?_) (fun c76 => ?_)
            · refine AW.iload (pc' := 88) dX12_givesOf_86 rfl ?_
              refine AW.iret dX12_givesOf_88 ?_ ?_
              all_goals first | omega | (rcases kk with rfl | rfl | rfl | rfl | rfl | rfl | rfl | rfl <;> first | omega | rfl)
            · refine AW.iload (pc' := 81) dX12_givesOf_79 rfl ?_
              refine AW.iconst (pc' := 82) dX12_givesOf_81 ?_
              refine AW.imul (pc' := 83) dX12_givesOf_82 ?_
              refine AW.goto (tgt := 88) dX12_givesOf_83 ?_
              refine AW.iret dX12_givesOf_88 ?_ ?_
              all_goals first | omega | (rcases kk with rfl | rfl | rfl | rfl | rfl | rfl | rfl | rfl <;> first | omega | rfl)
          · refine AW.iload (pc' := 68) dX12_givesOf_66 rfl ?_
            refine AW.iconst (pc' := 69) dX12_givesOf_68 ?_
            refine AW.iadd (pc' := 70) dX12_givesOf_69 ?_
            refine AW.goto (tgt := 88) dX12_givesOf_70 ?_
            refine AW.iret dX12_givesOf_88 ?_ ?_
            all_goals first | omega | (rcases kk with rfl | rfl | rfl | rfl | rfl | rfl | rfl | rfl <;> first | omega | rfl)
      · refine AW.aload_n (pc' := 40) dX12_givesOf_39 rfl ?_
        refine AW.bipush (pc' := 42) dX12_givesOf_40 (by decide) ?_
        refine AW.invV1v (pc' := 45) dX12_givesOf_42 mlX12_345 mX12_begins ly_57 rfl (c_X12_begins (dep := dep - 1) (a := 70) (by first | omega | (simp only [puM_ran, bgM_ran]; omega)) (by decide)) ?_
        refine AW.aload_n (pc' := 46) dX12_givesOf_45 rfl ?_
        refine AW.iconst (pc' := 47) dX12_givesOf_46 ?_
        refine AW.invV1v (pc' := 50) dX12_givesOf_47 mlX12_345 mX12_begins ly_57 rfl (c_X12_begins (dep := dep - 1) (a := 1) (by first | omega | (simp only [puM_ran, bgM_ran]; omega)) (by decide)) ?_
        refine AW.iload (pc' := 52) dX12_givesOf_50 rfl ?_
        refine AW.iload_n (pc' := 53) dX12_givesOf_52 rfl ?_
        refine AW.iadd (pc' := 54) dX12_givesOf_53 ?_
        refine AW.istore4 (pc' := 56) dX12_givesOf_54 (by decide) rfl ?_
        refine AW.iload_n (pc' := 57) dX12_givesOf_56 rfl ?_
        refine AW.iconst (pc' := 58) dX12_givesOf_57 ?_
        refine AW.icmp_eq (tgt := 66) (pc' := 61) dX12_givesOf_58 (by first | assumption | omega | (constructor <;> omega) | (simp only [Int.toNat_natCast]; omega) | exact b2_in _) (by first | assumption | omega | (constructor <;> omega) | (simp only [Int.toNat_natCast]; omega) | exact b2_in _) (fun c58 => ?_) (fun c58 => ?_)
        · refine AW.iload (pc' := 68) dX12_givesOf_66 rfl ?_
          refine AW.iconst (pc' := 69) dX12_givesOf_68 ?_
          refine AW.iadd (pc' := 70) dX12_givesOf_69 ?_
          refine AW.goto (tgt := 88) dX12_givesOf_70 ?_
          refine AW.iret dX12_givesOf_88 ?_ ?_
          all_goals first | omega | (rcases kk with rfl | rfl | rfl | rfl | rfl | rfl | rfl | rfl <;> first | omega | rfl)
        · refine AW.iload_n (pc' := 62) dX12_givesOf_61 rfl ?_
          refine AW.iconst (pc' := 63) dX12_givesOf_62 ?_
          refine AW.icmp_ne (tgt := 73) (pc' := 66) dX12_givesOf_63 (by first | assumption | omega | (constructor <;> omega) | (simp only [Int.toNat_natCast]; omega) | exact b2_in _) (by first | assumption | omega | (constructor <;> omega) | (simp only [Int.toNat_natCast]; omega) | exact b2_in _) (fun c63 => ?_) (fun c63 => ?_)
          · refine AW.iload_n (pc' := 74) dX12_givesOf_73 rfl ?_
            refine AW.bipush (pc' := 76) dX12_givesOf_74 (by decide) ?_
            refine AW.icmp_ne (tgt := 86) (pc' := 79) dX12_givesOf_76 (by first | assumption | omega | (constructor <;> omega) | (simp only [Int.toNat_natCast]; omega) | exact b2_in _) (by first | assumption | omega | (constructor <;> omega) | (simp only [Int.toNat_natCast]; omega) | exact b2_in _) (fun c76 => ?_) (fun c76 => ?_)
            · refine AW.iload (pc' := 88) dX12_givesOf_86 rfl ?_
              refine AW.iret dX12_givesOf_88 ?_ ?_
              all_goals first | omega | (rcases kk with rfl | rfl | rfl | rfl | rfl | rfl | rfl | rfl <;> first | omega | rfl)
            · refine AW.iload (pc' := 81) dX12_givesOf_79 rfl ?_
              refine AW.iconst (pc' := 82) dX12_givesOf_81 ?_
              refine AW.imul (pc' := 83) dX12_givesOf_82 ?_
              refine AW.goto (tgt := 88) dX12_givesOf_83 ?_
              refine AW.iret dX12_givesOf_88 ?_ ?_
              all_goals first | omega | (rcases kk with rfl | rfl | rfl | rfl | rfl | rfl | rfl | rfl <;> first | omega | rfl)
          · refine AW.iload (pc' := 68) dX12_givesOf_66 rfl ?_
            refine AW.iconst (pc' := 69) dX12_givesOf_68 ?_
            refine AW.iadd (pc' := 70) dX12_givesOf_69 ?_
            refine AW.goto (tgt := 88) dX12_givesOf_70 ?_
            refine AW.iret dX12_givesOf_88 ?_ ?_
            all_goals first | omega | (rcases kk with rfl | rfl | rfl | rfl | rfl | rfl | rfl | rfl <;> first | omega | rfl)
    · refine AW.iload_n (pc' := 23) dX12_givesOf_22 rfl ?_
      refine AW.iconst (pc' := 24) dX12_givesOf_23 ?_
      refine AW.icmp_ne (tgt := 33) (pc' := 27) dX12_givesOf_24 (by first | assumption | omega | (constructor <;> omega) | (simp only [Int.toNat_natCast]; omega) | exact b2_in _) (by first | assumption | omega | (constructor <;> omega) | (simp only [Int.toNat_natCast]; omega) | exact b2_in _) (fun c24 => ?_) (fun c24 => ?_)
      · refine AW.iload_n (pc' := 34) dX12_givesOf_33 rfl ?_
        refine AW.bipush (pc' := 36) dX12_givesOf_34 (by decide) ?_
        refine AW.icmp_ne (tgt := 45) (pc' := 39) dX12_givesOf_36 (by first | assumption | omega | (constructor <;> omega) | (simp only [Int.toNat_natCast]; omega) | exact b2_in _) (by first | assumption | omega | (constructor <;> omega) | (simp only [Int.toNat_natCast]; omega) | exact b2_in _) (fun c36 => ?_) (fun c36 => ?_)
        · refine AW.aload_n (pc' := 46) dX12_givesOf_45 rfl ?_
          refine AW.iconst (pc' := 47) dX12_givesOf_46 ?_
          refine AW.invV1v (pc' := 50) dX12_givesOf_47 mlX12_345 mX12_begins ly_57 rfl (c_X12_begins (dep := dep - 1) (a := 1) (by first | omega | (simp only [puM_ran, bgM_ran]; omega)) (by decide)) ?_
          refine AW.iload (pc' := 52) dX12_givesOf_50 rfl ?_
          refine AW.iload_n (pc' := 53) dX12_givesOf_52 rfl ?_
          refine AW.iadd (pc' := 54) dX12_givesOf_53 ?_
          refine AW.istore4 (pc' := 56) dX12_givesOf_54 (by decide) rfl ?_
          refine AW.iload_n (pc' := 57) dX12_givesOf_56 rfl ?_
          refine AW.iconst (pc' := 58) dX12_givesOf_57 ?_
          refine AW.icmp_eq (tgt := 66) (pc' := 61) dX12_givesOf_58 (by first | assumption | omega | (constructor <;> omega) | (simp only [Int.toNat_natCast]; omega) | exact b2_in _) (by first | assumption | omega | (constructor <;> omega) | (simp only [Int.toNat_natCast]; omega) | exact b2_in _) (fun c58 => ?_) (fun c58 => ?_)
          · refine AW.iload (pc' := 68) dX12_givesOf_66 rfl ?_
            refine AW.iconst (pc' := 69) dX12_givesOf_68 ?_
            refine AW.iadd (pc' := 70) dX12_givesOf_69 ?_
            refine AW.goto (tgt := 88) dX12_givesOf_70 ?_
            refine AW.iret dX12_givesOf_88 ?_ ?_
            all_goals first | omega | (rcases kk with rfl | rfl | rfl | rfl | rfl | rfl | rfl | rfl <;> first | omega | rfl)
          · refine AW.iload_n (pc' := 62) dX12_givesOf_61 rfl ?_
            refine AW.iconst (pc' := 63) dX12_givesOf_62 ?_
            refine AW.icmp_ne (tgt := 73) (pc' := 66) dX12_givesOf_63 (by first | assumption | omega | (constructor <;> omega) | (simp only [Int.toNat_natCast]; omega) | exact b2_in _) (by first | assumption | omega | (constructor <;> omega) | (simp only [Int.toNat_natCast]; omega) | exact b2_in _) (fun c63 => ?_) (fun c63 => ?_)
            · refine AW.iload_n (pc' := 74) dX12_givesOf_73 rfl ?_
              refine AW.bipush (pc' := 76) dX12_givesOf_74 (by decide) ?_
              refine AW.icmp_ne (tgt := 86) (pc' := 79) dX12_givesOf_76 (by first | assumption | omega | (constructor <;> omega) | (simp only [Int.toNat_natCast]; omega) | exact b2_in _) (by first | assumption | omega | (constructor <;> omega) | (simp only [Int.toNat_natCast]; omega) | exact b2_in _) (fun c76 => ?_) (fun c76 => ?_)
              · refine AW.iload (pc' := 88) dX12_givesOf_86 rfl ?_
                refine AW.iret dX12_givesOf_88 ?_ ?_
                all_goals first | omega | (rcases kk with rfl | rfl | rfl | rfl | rfl | rfl | rfl | rfl <;> first | omega | rfl)
              · refine AW.iload (pc' := 81) dX12_givesOf_79 rfl ?_
                refine AW.iconst (pc' := 82) dX12_givesOf_81 ?_
                refine AW.imul (pc' := 83) dX12_givesOf_82 ?_
                refine AW.goto (tgt := 88) dX12_givesOf_83 ?_
                refine AW.iret dX12_givesOf_88 ?_ ?_
                all_goals first | omega | (rcases kk with rfl | rfl | rfl | rfl | rfl | rfl | rfl | rfl <;> first | omega | rfl)
            · refine AW.iload (pc' := 68) dX12_givesOf_66 rfl ?_
              refine AW.iconst (pc' := 69) dX12_givesOf_68 ?_
              refine AW.iadd (pc' := 70) dX12_givesOf_69 ?_
              refine AW.goto (tgt := 88) dX12_givesOf_70 ?_
              refine AW.iret dX12_givesOf_88 ?_ ?_
              all_goals first | omega | (rcases kk with rfl | rfl | rfl | rfl | rfl | rfl | rfl | rfl <;> first | omega | rfl)
        · refine AW.aload_n (pc' := 40) dX12_givesOf_39 rfl ?_
          refine AW.bipush (pc' := 42) dX12_givesOf_40 (by decide) ?_
          refine AW.invV1v (pc' := 45) dX12_givesOf_42 mlX12_345 mX12_begins ly_57 rfl (c_X12_begins (dep := dep - 1) (a := 70) (by first | omega | (simp only [puM_ran, bgM_ran]; omega)) (by decide)) ?_
          refine AW.aload_n (pc' := 46) dX12_givesOf_45 rfl ?_
          refine AW.iconst (pc' := 47) dX12_givesOf_46 ?_
          refine AW.invV1v (pc' := 50) dX12_givesOf_47 mlX12_345 mX12_begins ly_57 rfl (c_X12_begins (dep := dep - 1) (a := 1) (by first | omega | (simp only [puM_ran, bgM_ran]; omega)) (by decide)) ?_
          refine AW.iload (pc' := 52) dX12_givesOf_50 rfl ?_
          refine AW.iload_n (pc' := 53) dX12_givesOf_52 rfl ?_
          refine AW.iadd (pc' := 54) dX12_givesOf_53 ?_
          refine AW.istore4 (pc' := 56) dX12_givesOf_54 (by decide) rfl ?_
          refine AW.iload_n (pc' := 57) dX12_givesOf_56 rfl ?_
          refine AW.iconst (pc' := 58) dX12_givesOf_57 ?_
          refine AW.icmp_eq (tgt := 66) (pc' := 61) dX12_givesOf_58 (by first | assumption | omega | (constructor <;> omega) | (simp only [Int.toNat_natCast]; omega) | exact b2_in _) (by first | assumption | omega | (constructor <;> omega) | (simp only [Int.toNat_natCast]; omega) | exact b2_in _) (fun c58 => ?_) (fun c58 => ?_)
          · refine AW.iload (pc' := 68) dX12_givesOf_66 rfl ?_
            refine AW.iconst (pc' := 69) dX12_givesOf_68 ?_
            refine AW.iadd (pc' := 70) dX12_givesOf_69 ?_
            refine AW.goto (tgt := 88) dX12_givesOf_70 ?_
            refine AW.iret dX12_givesOf_88 ?_ ?_
            all_goals first | omega | (rcases kk with rfl | rfl | rfl | rfl | rfl | rfl | rfl | rfl <;> first | omega | rfl)
          · refine AW.iload_n (pc' := 62) dX12_givesOf_61 rfl ?_
            refine AW.iconst (pc' := 63) dX12_givesOf_62 ?_
            refine AW.icmp_ne (tgt := 73) (pc' := 66) dX12_givesOf_63 (by first | assumption | omega | (constructor <;> omega) | (simp only [Int.toNat_natCast]; omega) | exact b2_in _) (by first | assumption | omega | (constructor <;> omega) | (simp only [Int.toNat_natCast]; omega) | exact b2_in _) (fun c63 => ?_) (fun c63 => ?_)
            · refine AW.iload_n (pc' := 74) dX12_givesOf_73 rfl ?_
              refine AW.bipush (pc' := 76) dX12_givesOf_74 (by decide) ?_
              refine AW.icmp_ne (tgt := 86) (pc' := 79) dX12_givesOf_76 (by first | assumption | omega | (constructor <;> omega) | (simp only [Int.toNat_natCast]; omega) | exact b2_in _) (by first | assumption | omega | (constructor <;> omega) | (simp only [Int.toNat_natCast]; omega) | exact b2_in _) (fun c76 => ?_) (fun c76 => ?_)
              · refine AW.iload (pc' := 88) dX12_givesOf_86 rfl ?_
                refine AW.iret dX12_givesOf_88 ?_ ?_
                all_goals first | omega | (rcases kk with rfl | rfl | rfl | rfl | rfl | rfl | rfl | rfl <;> first | omega | rfl)
              · refine AW.iload (pc' := 81) dX12_givesOf_79 rfl ?_
                refine AW.iconst (pc' := 82) dX12_givesOf_81 ?_
                refine AW.imul (pc' := 83) dX12_givesOf_82 ?_
                refine AW.goto (tgt := 88) dX12_givesOf_83 ?_
                refine AW.iret dX12_givesOf_88 ?_ ?_
                all_goals first | omega | (rcases kk with rfl | rfl | rfl | rfl | rfl | rfl | rfl | rfl <;> first | omega | rfl)
            · refine AW.iload (pc' := 68) dX12_givesOf_66 rfl ?_
              refine AW.iconst (pc' := 69) dX12_givesOf_68 ?_
              refine AW.iadd (pc' := 70) dX12_givesOf_69 ?_
              refine AW.goto (tgt := 88) dX12_givesOf_70 ?_
              refine AW.iret dX12_givesOf_88 ?_ ?_
              all_goals first | omega | (rcases kk with rfl | rfl | rfl | rfl | rfl | rfl | rfl | rfl <;> first | omega | rfl)
      · refine AW.aload_n (pc' := 28) dX12_givesOf_27 rfl ?_
        refine AW.bipush (pc' := 30) dX12_givesOf_28 (by decide) ?_
        refine AW.invV1v (pc' := 33) dX12_givesOf_30 mlX12_345 mX12_begins ly_57 rfl (c_X12_begins (dep := dep - 1) (a := 20) (by first | omega | (simp only [puM_ran, bgM_ran]; omega)) (by decide)) ?_
        refine AW.iload_n (pc' := 34) dX12_givesOf_33 rfl ?_
        refine AW.bipush (pc' := 36) dX12_givesOf_34 (by decide) ?_
        refine AW.icmp_ne (tgt := 45) (pc' := 39) dX12_givesOf_36 (by first | assumption | omega | (constructor <;> omega) | (simp only [Int.toNat_natCast]; omega) | exact b2_in _) (by first | assumption | omega | (constructor <;> omega) | (simp only [Int.toNat_natCast]; omega) | exact b2_in _) (fun c36 => ?_) (fun c36 => ?_)
        · refine AW.aload_n (pc' := 46) dX12_givesOf_45 rfl ?_
          refine AW.iconst (pc' := 47) dX12_givesOf_46 ?_
          refine AW.invV1v (pc' := 50) dX12_givesOf_47 mlX12_345 mX12_begins ly_57 rfl (c_X12_begins (dep := dep - 1) (a := 1) (by first | omega | (simp only [puM_ran, bgM_ran]; omega)) (by decide)) ?_
          refine AW.iload (pc' := 52) dX12_givesOf_50 rfl ?_
          refine AW.iload_n (pc' := 53) dX12_givesOf_52 rfl ?_
          refine AW.iadd (pc' := 54) dX12_givesOf_53 ?_
          refine AW.istore4 (pc' := 56) dX12_givesOf_54 (by decide) rfl ?_
          refine AW.iload_n (pc' := 57) dX12_givesOf_56 rfl ?_
          refine AW.iconst (pc' := 58) dX12_givesOf_57 ?_
          refine AW.icmp_eq (tgt := 66) (pc' := 61) dX12_givesOf_58 (by first | assumption | omega | (constructor <;> omega) | (simp only [Int.toNat_natCast]; omega) | exact b2_in _) (by first | assumption | omega | (constructor <;> omega) | (simp only [Int.toNat_natCast]; omega) | exact b2_in _) (fun c58 => ?_) (fun c58 => ?_)
          · refine AW.iload (pc' := 68) dX12_givesOf_66 rfl ?_
            refine AW.iconst (pc' := 69) dX12_givesOf_68 ?_
            refine AW.iadd (pc' := 70) dX12_givesOf_69 ?_
            refine AW.goto (tgt := 88) dX12_givesOf_70 ?_
            refine AW.iret dX12_givesOf_88 ?_ ?_
            all_goals first | omega | (rcases kk with rfl | rfl | rfl | rfl | rfl | rfl | rfl | rfl <;> first | omega | rfl)
          · refine AW.iload_n (pc' := 62) dX12_givesOf_61 rfl ?_
            refine AW.iconst (pc' := 63) dX12_givesOf_62 ?_
            refine AW.icmp_ne (tgt := 73) (pc' := 66) dX12_givesOf_63 (by first | assumption | omega | (constructor <;> omega) | (simp only [Int.toNat_natCast]; omega) | exact b2_in _) (by first | assumption | omega | (constructor <;> omega) | (simp only [Int.toNat_natCast]; omega) | exact b2_in _) (fun c63 => ?_) (fun c63 => ?_)
            · refine AW.iload_n (pc' := 74) dX12_givesOf_73 rfl ?_
              refine AW.bipush (pc' := 76) dX12_givesOf_74 (by decide) ?_
              refine AW.icmp_ne (tgt := 86) (pc' := 79) dX12_givesOf_76 (by first | assumption | omega | (constructor <;> omega) | (simp only [Int.toNat_natCast]; omega) | exact b2_in _) (by first | assumption | omega | (constructor <;> omega) | (simp only [Int.toNat_natCast]; omega) | exact b2_in _) (fun c76 => ?_) (fun c76 => ?_)
              · refine AW.iload (pc' := 88) dX12_givesOf_86 rfl ?_
                refine AW.iret dX12_givesOf_88 ?_ ?_
                all_goals first | omega | (rcases kk with rfl | rfl | rfl | rfl | rfl | rfl | rfl | rfl <;> first | omega | rfl)
              · refine AW.iload (pc' := 81) dX12_givesOf_79 rfl ?_
                refine AW.iconst (pc' := 82) dX12_givesOf_81 ?_
                refine AW.imul (pc' := 83) dX12_givesOf_82 ?_
                refine AW.goto (tgt := 88) dX12_givesOf_83 ?_
                refine AW.iret dX12_givesOf_88 ?_ ?_
                all_goals first | omega | (rcases kk with rfl | rfl | rfl | rfl | rfl | rfl | rfl | rfl <;> first | omega | rfl)
            · refine AW.iload (pc' := 68) dX12_givesOf_66 rfl ?_
              refine AW.iconst (pc' := 69) dX12_givesOf_68 ?_
              refine AW.iadd (pc' := 70) dX12_givesOf_69 ?_
              refine AW.goto (tgt := 88) dX12_givesOf_70 ?_
              refine AW.iret dX12_givesOf_88 ?_ ?_
              all_goals first | omega | (rcases kk with rfl | rfl | rfl | rfl | rfl | rfl | rfl | rfl <;> first | omega | rfl)
        · refine AW.aload_n (pc' := 40) dX12_givesOf_39 rfl ?_
          refine AW.bipush (pc' := 42) dX12_givesOf_40 (by decide) ?_
          refine AW.invV1v (pc' := 45) dX12_givesOf_42 mlX12_345 mX12_begins ly_57 rfl (c_X12_begins (dep := dep - 1) (a := 70) (by first | omega | (simp only [puM_ran, bgM_ran]; omega)) (by decide)) ?_
          refine AW.aload_n (pc' := 46) dX12_givesOf_45 rfl ?_
          refine AW.iconst (pc' := 47) dX12_givesOf_46 ?_
          refine AW.invV1v (pc' := 50) dX12_givesOf_47 mlX12_345 mX12_begins ly_57 rfl (c_X12_begins (dep := dep - 1) (a := 1) (by first | omega | (simp only [puM_ran, bgM_ran]; omega)) (by decide)) ?_
          refine AW.iload (pc' := 52) dX12_givesOf_50 rfl ?_
          refine AW.iload_n (pc' := 53) dX12_givesOf_52 rfl ?_
          refine AW.iadd (pc' := 54) dX12_givesOf_53 ?_
          refine AW.istore4 (pc' := 56) dX12_givesOf_54 (by decide) rfl ?_
          refine AW.iload_n (pc' := 57) dX12_givesOf_56 rfl ?_
          refine AW.iconst (pc' := 58) dX12_givesOf_57 ?_
          refine AW.icmp_eq (tgt := 66) (pc' := 61) dX12_givesOf_58 (by first | assumption | omega | (constructor <;> omega) | (simp only [Int.toNat_natCast]; omega) | exact b2_in _) (by first | assumption | omega | (constructor <;> omega) | (simp only [Int.toNat_natCast]; omega) | exact b2_in _) (fun c58 => ?_) (fun c58 => ?_)
          · refine AW.iload (pc' := 68) dX12_givesOf_66 rfl ?_
            refine AW.iconst (pc' := 69) dX12_givesOf_68 ?_
            refine AW.iadd (pc' := 70) dX12_givesOf_69 ?_
            refine AW.goto (tgt := 88) dX12_givesOf_70 ?_
            refine AW.iret dX12_givesOf_88 ?_ ?_
            all_goals first | omega | (rcases kk with rfl | rfl | rfl | rfl | rfl | rfl | rfl | rfl <;> first | omega | rfl)
          · refine AW.iload_n (pc' := 62) dX12_givesOf_61 rfl ?_
            refine AW.iconst (pc' := 63) dX12_givesOf_62 ?_
            refine AW.icmp_ne (tgt := 73) (pc' := 66) dX12_givesOf_63 (by first | assumption | omega | (constructor <;> omega) | (simp only [Int.toNat_natCast]; omega) | exact b2_in _) (by first | assumption | omega | (constructor <;> omega) | (simp only [Int.toNat_natCast]; omega) | exact b2_in _) (fun c63 => ?_) (fun c63 => ?_)
            · refine AW.iload_n (pc' := 74) dX12_givesOf_73 rfl ?_
              refine AW.bipush (pc' := 76) dX12_givesOf_74 (by decide) ?_
              refine AW.icmp_ne (tgt := 86) (pc' := 79) dX12_givesOf_76 (by first | assumption | omega | (constructor <;> omega) | (simp only [Int.toNat_natCast]; omega) | exact b2_in _) (by first | assumption | omega | (constructor <;> omega) | (simp only [Int.toNat_natCast]; omega) | exact b2_in _) (fun c76 => ?_) (fun c76 => ?_)
              · refine AW.iload (pc' := 88) dX12_givesOf_86 rfl ?_
                refine AW.iret dX12_givesOf_88 ?_ ?_
                all_goals first | omega | (rcases kk with rfl | rfl | rfl | rfl | rfl | rfl | rfl | rfl <;> first | omega | rfl)
              · refine AW.iload (pc' := 81) dX12_givesOf_79 rfl ?_
                refine AW.iconst (pc' := 82) dX12_givesOf_81 ?_
                refine AW.imul (pc' := 83) dX12_givesOf_82 ?_
                refine AW.goto (tgt := 88) dX12_givesOf_83 ?_
                refine AW.iret dX12_givesOf_88 ?_ ?_
                all_goals first | omega | (rcases kk with rfl | rfl | rfl | rfl | rfl | rfl | rfl | rfl <;> first | omega | rfl)
            · refine AW.iload (pc' := 68) dX12_givesOf_66 rfl ?_
              refine AW.iconst (pc' := 69) dX12_givesOf_68 ?_
              refine AW.iadd (pc' := 70) dX12_givesOf_69 ?_
              refine AW.goto (tgt := 88) dX12_givesOf_70 ?_
              refine AW.iret dX12_givesOf_88 ?_ ?_
              all_goals first | omega | (rcases kk with rfl | rfl | rfl | rfl | rfl | rfl | rfl | rfl <;> first | omega | rfl)
  · refine AW.aload_n (pc' := 9) dX12_givesOf_8 rfl ?_
    refine AW.bipush (pc' := 11) dX12_givesOf_9 (by decide) ?_
    refine AW.invV1v (pc' := 14) dX12_givesOf_11 mlX12_345 mX12_begins ly_57 rfl (c_X12_begins (dep := dep - 1) (a := 41) (by first | omega | (simp only [puM_ran, bgM_ran]; omega)) (by decide)) ?_
    refine AW.iinc4 (pc' := 17) dX12_givesOf_14 (by decide) rfl ?_
    refine AW.iload_n (pc' := 18) dX12_givesOf_17 rfl ?_
    refine AW.iconst (pc' := 19) dX12_givesOf_18 ?_
    refine AW.icmp_eq (tgt := 27) (pc' := 22) dX12_givesOf_19 (by first | assumption | omega | (constructor <;> omega) | (simp only [Int.toNat_natCast]; omega) | exact b2_in _) (by first | assumption | omega | (constructor <;> omega) | (simp only [Int.toNat_natCast]; omega) | exact b2_in _) (fun c19 => ?_) (fun c19 => ?_)
    · refine AW.aload_n (pc' := 28) dX12_givesOf_27 rfl ?_
      refine AW.bipush (pc' := 30) dX12_givesOf_28 (by decide) ?_
      refine AW.invV1v (pc' := 33) dX12_givesOf_30 mlX12_345 mX12_begins ly_57 rfl (c_X12_begins (dep := dep - 1) (a := 20) (by first | omega | (simp only [puM_ran, bgM_ran]; omega)) (by decide)) ?_
      refine AW.iload_n (pc' := 34) dX12_givesOf_33 rfl ?_
      refine AW.bipush (pc' := 36) dX12_givesOf_34 (by decide) ?_
      refine AW.icmp_ne (tgt := 45) (pc' := 39) dX12_givesOf_36 (by first | assumption | omega | (constructor <;> omega) | (simp only [Int.toNat_natCast]; omega) | exact b2_in _) (by first | assumption | omega | (constructor <;> omega) | (simp only [Int.toNat_natCast]; omega) | exact b2_in _) (fun c36 => ?_) (fun c36 => ?_)
      · refine AW.aload_n (pc' := 46) dX12_givesOf_45 rfl ?_
        refine AW.iconst (pc' := 47) dX12_givesOf_46 ?_
        refine AW.invV1v (pc' := 50) dX12_givesOf_47 mlX12_345 mX12_begins ly_57 rfl (c_X12_begins (dep := dep - 1) (a := 1) (by first | omega | (simp only [puM_ran, bgM_ran]; omega)) (by decide)) ?_
        refine AW.iload (pc' := 52) dX12_givesOf_50 rfl ?_
        refine AW.iload_n (pc' := 53) dX12_givesOf_52 rfl ?_
        refine AW.iadd (pc' := 54) dX12_givesOf_53 ?_
        refine AW.istore4 (pc' := 56) dX12_givesOf_54 (by decide) rfl ?_
        refine AW.iload_n (pc' := 57) dX12_givesOf_56 rfl ?_
        refine AW.iconst (pc' := 58) dX12_givesOf_57 ?_
        refine AW.icmp_eq (tgt := 66) (pc' := 61) dX12_givesOf_58 (by first | assumption | omega | (constructor <;> omega) | (simp only [Int.toNat_natCast]; omega) | exact b2_in _) (by first | assumption | omega | (constructor <;> omega) | (simp only [Int.toNat_natCast]; omega) | exact b2_in _) (fun c58 => ?_) (fun c58 => ?_)
        · refine AW.iload (pc' := 68) dX12_givesOf_66 rfl ?_
          refine AW.iconst (pc' := 69) dX12_givesOf_68 ?_
          refine AW.iadd (pc' := 70) dX12_givesOf_69 ?_
          refine AW.goto (tgt := 88) dX12_givesOf_70 ?_
          refine AW.iret dX12_givesOf_88 ?_ ?_
          all_goals first | omega | (rcases kk with rfl | rfl | rfl | rfl | rfl | rfl | rfl | rfl <;> first | omega | rfl)
        · refine AW.iload_n (pc' := 62) dX12_givesOf_61 rfl ?_
          refine AW.iconst (pc' := 63) dX12_givesOf_62 ?_
          refine AW.icmp_ne (tgt := 73) (pc' := 66) dX12_givesOf_63 (by first | assumption | omega | (constructor <;> omega) | (simp only [Int.toNat_natCast]; omega) | exact b2_in _) (by first | assumption | omega | (constructor <;> omega) | (simp only [Int.toNat_natCast]; omega) | exact b2_in _) (fun c63 => ?_) (fun c63 => ?_)
          · refine AW.iload_n (pc' := 74) dX12_givesOf_73 rfl ?_
            refine AW.bipush (pc' := 76) dX12_givesOf_74 (by decide) ?_
            refine AW.icmp_ne (tgt := 86) (pc' := 79) dX12_givesOf_76 (by first | assumption | omega | (constructor <;> omega) | (simp only [Int.toNat_natCast]; omega) | exact b2_in _) (by first | assumption | omega | (constructor <;> omega) | (simp only [Int.toNat_natCast]; omega) | exact b2_in _) (fun c76 => ?_) (fun c76 => ?_)
            · refine AW.iload (pc' := 88) dX12_givesOf_86 rfl ?_
              refine AW.iret dX12_givesOf_88 ?_ ?_
              all_goals first | omega | (rcases kk with rfl | rfl | rfl | rfl | rfl | rfl | rfl | rfl <;> first | omega | rfl)
            · refine AW.iload (pc' := 81) dX12_givesOf_79 rfl ?_
              refine AW.iconst (pc' := 82) dX12_givesOf_81 ?_
              refine AW.imul (pc' := 83) dX12_givesOf_82 ?_
              refine AW.goto (tgt := 88) dX12_givesOf_83 ?_
              refine AW.iret dX12_givesOf_88 ?_ ?_
              all_goals first | omega | (rcases kk with rfl | rfl | rfl | rfl | rfl | rfl | rfl | rfl <;> first | omega | rfl)
          · refine AW.iload (pc' := 68) dX12_givesOf_66 rfl ?_
            refine AW.iconst (pc' := 69) dX12_givesOf_68 ?_
            refine AW.iadd (pc' := 70) dX12_givesOf_69 ?_
            refine AW.goto (tgt := 88) dX12_givesOf_70 ?_
            refine AW.iret dX12_givesOf_88 ?_ ?_
            all_goals first | omega | (rcases kk with rfl | rfl | rfl | rfl | rfl | rfl | rfl | rfl <;> first | omega | rfl)
      · refine AW.aload_n (pc' := 40) dX12_givesOf_39 rfl ?_
        refine AW.bipush (pc' := 42) dX12_givesOf_40 (by decide) ?_
        refine AW.invV1v (pc' := 45) dX12_givesOf_42 mlX12_345 mX12_begins ly_57 rfl (c_X12_begins (dep := dep - 1) (a := 70) (by first | omega | (simp only [puM_ran, bgM_ran]; omega)) (by decide)) ?_
        refine AW.aload_n (pc' := 46) dX12_givesOf_45 rfl ?_
        refine AW.iconst (pc' := 47) dX12_givesOf_46 ?_
        refine AW.invV1v (pc' := 50) dX12_givesOf_47 mlX12_345 mX12_begins ly_57 rfl (c_X12_begins (dep := dep - 1) (a := 1) (by first | omega | (simp only [puM_ran, bgM_ran]; omega)) (by decide)) ?_
        refine AW.iload (pc' := 52) dX12_givesOf_50 rfl ?_
        refine AW.iload_n (pc' := 53) dX12_givesOf_52 rfl ?_
        refine AW.iadd (pc' := 54) dX12_givesOf_53 ?_
        refine AW.istore4 (pc' := 56) dX12_givesOf_54 (by decide) rfl ?_
        refine AW.iload_n (pc' := 57) dX12_givesOf_56 rfl ?_
        refine AW.iconst (pc' := 58) dX12_givesOf_57 ?_
        refine AW.icmp_eq (tgt := 66) (pc' := 61) dX12_givesOf_58 (by first | assumption | omega | (constructor <;> omega) | (simp only [Int.toNat_natCast]; omega) | exact b2_in _) (by first | assumption | omega | (constructor <;> omega) | (simp only [Int.toNat_natCast]; omega) | exact b2_in _) (fun c58 => ?_) (fun c58 => ?_)
        · refine AW.iload (pc' := 68) dX12_givesOf_66 rfl ?_
          refine AW.iconst (pc' := 69) dX12_givesOf_68 ?_
          refine AW.iadd (pc' := 70) dX12_givesOf_69 ?_
          refine AW.goto (tgt := 88) dX12_givesOf_70 ?_
          refine AW.iret dX12_givesOf_88 ?_ ?_
          all_goals first | omega | (rcases kk with rfl | rfl | rfl | rfl | rfl | rfl | rfl | rfl <;> first | omega | rfl)
        · refine AW.iload_n (pc' := 62) dX12_givesOf_61 rfl ?_
          refine AW.iconst (pc' := 63) dX12_givesOf_62 ?_
          refine AW.icmp_ne (tgt := 73) (pc' := 66) dX12_givesOf_63 (by first | assumption | omega | (constructor <;> omega) | (simp only [Int.toNat_natCast]; omega) | exact b2_in _) (by first | assumption | omega | (constructor <;> omega) | (simp only [Int.toNat_natCast]; omega) | exact b2_in _) (fun c63 => ?_) (fun c63 => ?_)
          · refine AW.iload_n (pc' := 74) dX12_givesOf_73 rfl ?_
            refine AW.bipush (pc' := 76) dX12_givesOf_74 (by decide) ?_
            refine AW.icmp_ne (tgt := 86) (pc' := 79) dX12_givesOf_76 (by first | assumption | omega | (constructor <;> omega) | (simp only [Int.toNat_natCast]; omega) | exact b2_in _) (by first | assumption | omega | (constructor <;> omega) | (simp only [Int.toNat_natCast]; omega) | exact b2_in _) (fun c76 => ?_) (fun c76 => ?_)
            · refine AW.iload (pc' := 88) dX12_givesOf_86 rfl ?_
              refine AW.iret dX12_givesOf_88 ?_ ?_
              all_goals first | omega | (rcases kk with rfl | rfl | rfl | rfl | rfl | rfl | rfl | rfl <;> first | omega | rfl)
            · refine AW.iload (pc' := 81) dX12_givesOf_79 rfl ?_
              refine AW.iconst (pc' := 82) dX12_givesOf_81 ?_
              refine AW.imul (pc' := 83) dX12_givesOf_82 ?_
              refine AW.goto (tgt := 88) dX12_givesOf_83 ?_
              refine AW.iret dX12_givesOf_88 ?_ ?_
              all_goals first | omega | (rcases kk with rfl | rfl | rfl | rfl | rfl | rfl | rfl | rfl <;> first | omega | rfl)
          · refine AW.iload (pc' := 68) dX12_givesOf_66 rfl ?_
            refine AW.iconst (pc' := 69) dX12_givesOf_68 ?_
            refine AW.iadd (pc' := 70) dX12_givesOf_69 ?_
            refine AW.goto (tgt := 88) dX12_givesOf_70 ?_
            refine AW.iret dX12_givesOf_88 ?_ ?_
            all_goals first | omega | (rcases kk with rfl | rfl | rfl | rfl | rfl | rfl | rfl | rfl <;> first | omega | rfl)
    · refine AW.iload_n (pc' := 23) dX12_givesOf_22 rfl ?_
      refine AW.iconst (pc' := 24) dX12_givesOf_23 ?_
      refine AW.icmp_ne (tgt := 33) (pc' := 27) dX12_givesOf_24 (by first | assumption | omega | (constructor <;> omega) | (simp only [Int.toNat_natCast]; omega) | exact b2_in _) (by first | assumption | omega | (constructor <;> omega) | (simp only [Int.toNat_natCast]; omega) | exact b2_in _) (fun c24 => ?_) (fun c24 => ?_)
      · refine AW.iload_n (pc' := 34) dX12_givesOf_33 rfl ?_
        refine AW.bipush (pc' := 36) dX12_givesOf_34 (by decide) ?_
        refine AW.icmp_ne (tgt := 45) (pc' := 39) dX12_givesOf_36 (by first | assumption | omega | (constructor <;> omega) | (simp only [Int.toNat_natCast]; omega) | exact b2_in _) (by first | assumption | omega | (constructor <;> omega) | (simp only [Int.toNat_natCast]; omega) | exact b2_in _) (fun c36 => ?_) (fun c36 => ?_)
        · refine AW.aload_n (pc' := 46) dX12_givesOf_45 rfl ?_
          refine AW.iconst (pc' := 47) dX12_givesOf_46 ?_
          refine AW.invV1v (pc' := 50) dX12_givesOf_47 mlX12_345 mX12_begins ly_57 rfl (c_X12_begins (dep := dep - 1) (a := 1) (by first | omega | (simp only [puM_ran, bgM_ran]; omega)) (by decide)) ?_
          refine AW.iload (pc' := 52) dX12_givesOf_50 rfl ?_
          refine AW.iload_n (pc' := 53) dX12_givesOf_52 rfl ?_
          refine AW.iadd (pc' := 54) dX12_givesOf_53 ?_
          refine AW.istore4 (pc' := 56) dX12_givesOf_54 (by decide) rfl ?_
          refine AW.iload_n (pc' := 57) dX12_givesOf_56 rfl ?_
          refine AW.iconst (pc' := 58) dX12_givesOf_57 ?_
          refine AW.icmp_eq (tgt := 66) (pc' := 61) dX12_givesOf_58 (by first | assumption | omega | (constructor <;> omega) | (simp only [Int.toNat_natCast]; omega) | exact b2_in _) (by first | assumption | omega | (constructor <;> omega) | (simp only [Int.toNat_natCast]; omega) | exact b2_in _) (fun c58 => ?_) (fun c58 => ?_)
          · refine AW.iload (pc' := 68) dX12_givesOf_66 rfl ?_
            refine AW.iconst (pc' := 69) dX12_givesOf_68 ?_
            refine AW.iadd (pc' := 70) dX12_givesOf_69 ?_
            refine AW.goto (tgt := 88) dX12_givesOf_70 ?_
            refine AW.iret dX12_givesOf_88 ?_ ?_
            all_goals first | omega | (rcases kk with rfl | rfl | rfl | rfl | rfl | rfl | rfl | rfl <;> first | omega | rfl)
          · refine AW.iload_n (pc' := 62) dX12_givesOf_61 rfl ?_
            refine AW.iconst (pc' := 63) dX12_givesOf_62 ?_
            refine AW.icmp_ne (tgt := 73) (pc' := 66) dX12_givesOf_63 (by first | assumption | omega | (constructor <;> omega) | (simp only [Int.toNat_natCast]; omega) | exact b2_in _) (by first | assumption | omega | (constructor <;> omega) | (simp only [Int.toNat_natCast]; omega) | exact b2_in _) (fun c63 => ?_) (fun c63 => ?_)
            · refine AW.iload_n (pc' := 74) dX12_givesOf_73 rfl ?_
              refine AW.bipush (pc' := 76) dX12_givesOf_74 (by decide) ?_
              refine AW.icmp_ne (tgt := 86) (pc' := 79) dX12_givesOf_76 (by first | assumption | omega | (constructor <;> omega) | (simp only [Int.toNat_natCast]; omega) | exact b2_in _) (by first | assumption | omega | (constructor <;> omega) | (simp only [Int.toNat_natCast]; omega) | exact b2_in _) (fun c76 => ?_) (fun c76 => ?_)
              · refine AW.iload (pc' := 88) dX12_givesOf_86 rfl ?_
                refine AW.iret dX12_givesOf_88 ?_ ?_
                all_goals first | omega | (rcases kk with rfl | rfl | rfl | rfl | rfl | rfl | rfl | rfl <;> first | omega | rfl)
              · refine AW.iload (pc' := 81) dX12_givesOf_79 rfl ?_
                refine AW.iconst (pc' := 82) dX12_givesOf_81 ?_
                refine AW.imul (pc' := 83) dX12_givesOf_82 ?_
                refine AW.goto (tgt := 88) dX12_givesOf_83 ?_
                refine AW.iret dX12_givesOf_88 ?_ ?_
                all_goals first | omega | (rcases kk with rfl | rfl | rfl | rfl | rfl | rfl | rfl | rfl <;> first | omega | rfl)
            · refine AW.iload (pc' := 68) dX12_givesOf_66 rfl ?_
              refine AW.iconst (pc' := 69) dX12_givesOf_68 ?_
              refine AW.iadd (pc' := 70) dX12_givesOf_69 ?_
              refine AW.goto (tgt := 88) dX12_givesOf_70 ?_
              refine AW.iret dX12_givesOf_88 ?_ ?_
              all_goals first | omega | (rcases kk with rfl | rfl | rfl | rfl | rfl | rfl | rfl | rfl <;> first | omega | rfl)
        · refine AW.aload_n (pc' := 40) dX12_givesOf_39 rfl ?_
          refine AW.bipush (pc' := 42) dX12_givesOf_40 (by decide) ?_
          refine AW.invV1v (pc' := 45) dX12_givesOf_42 mlX12_345 mX12_begins ly_57 rfl (c_X12_begins (dep := dep - 1) (a := 70) (by first | omega | (simp only [puM_ran, bgM_ran]; omega)) (by decide)) ?_
          refine AW.aload_n (pc' := 46) dX12_givesOf_45 rfl ?_
          refine AW.iconst (pc' := 47) dX12_givesOf_46 ?_
          refine AW.invV1v (pc' := 50) dX12_givesOf_47 mlX12_345 mX12_begins ly_57 rfl (c_X12_begins (dep := dep - 1) (a := 1) (by first | omega | (simp only [puM_ran, bgM_ran]; omega)) (by decide)) ?_
          refine AW.iload (pc' := 52) dX12_givesOf_50 rfl ?_
          refine AW.iload_n (pc' := 53) dX12_givesOf_52 rfl ?_
          refine AW.iadd (pc' := 54) dX12_givesOf_53 ?_
          refine AW.istore4 (pc' := 56) dX12_givesOf_54 (by decide) rfl ?_
          refine AW.iload_n (pc' := 57) dX12_givesOf_56 rfl ?_
          refine AW.iconst (pc' := 58) dX12_givesOf_57 ?_
          refine AW.icmp_eq (tgt := 66) (pc' := 61) dX12_givesOf_58 (by first | assumption | omega | (constructor <;> omega) | (simp only [Int.toNat_natCast]; omega) | exact b2_in _) (by first | assumption | omega | (constructor <;> omega) | (simp only [Int.toNat_natCast]; omega) | exact b2_in _) (fun c58 => ?_) (fun c58 => ?_)
          · refine AW.iload (pc' := 68) dX12_givesOf_66 rfl ?_
            refine AW.iconst (pc' := 69) dX12_givesOf_68 ?_
            refine AW.iadd (pc' := 70) dX12_givesOf_69 ?_
            refine AW.goto (tgt := 88) dX12_givesOf_70 ?_
            refine AW.iret dX12_givesOf_88 ?_ ?_
            all_goals first | omega | (rcases kk with rfl | rfl | rfl | rfl | rfl | rfl | rfl | rfl <;> first | omega | rfl)
          · refine AW.iload_n (pc' := 62) dX12_givesOf_61 rfl ?_
            refine AW.iconst (pc' := 63) dX12_givesOf_62 ?_
            refine AW.icmp_ne (tgt := 73) (pc' := 66) dX12_givesOf_63 (by first | assumption | omega | (constructor <;> omega) | (simp only [Int.toNat_natCast]; omega) | exact b2_in _) (by first | assumption | omega | (constructor <;> omega) | (simp only [Int.toNat_natCast]; omega) | exact b2_in _) (fun c63 => ?_) (fun c63 => ?_)
            · refine AW.iload_n (pc' := 74) dX12_givesOf_73 rfl ?_
              refine AW.bipush (pc' := 76) dX12_givesOf_74 (by decide) ?_
              refine AW.icmp_ne (tgt := 86) (pc' := 79) dX12_givesOf_76 (by first | assumption | omega | (constructor <;> omega) | (simp only [Int.toNat_natCast]; omega) | exact b2_in _) (by first | assumption | omega | (constructor <;> omega) | (simp only [Int.toNat_natCast]; omega) | exact b2_in _) (fun c76 => ?_) (fun c76 => ?_)
              · refine AW.iload (pc' := 88) dX12_givesOf_86 rfl ?_
                refine AW.iret dX12_givesOf_88 ?_ ?_
                all_goals first | omega | (rcases kk with rfl | rfl | rfl | rfl | rfl | rfl | rfl | rfl <;> first | omega | rfl)
              · refine AW.iload (pc' := 81) dX12_givesOf_79 rfl ?_
                refine AW.iconst (pc' := 82) dX12_givesOf_81 ?_
                refine AW.imul (pc' := 83) dX12_givesOf_82 ?_
                refine AW.goto (tgt := 88) dX12_givesOf_83 ?_
                refine AW.iret dX12_givesOf_88 ?_ ?_
                all_goals first | omega | (rcases kk with rfl | rfl | rfl | rfl | rfl | rfl | rfl | rfl <;> first | omega | rfl)
            · refine AW.iload (pc' := 68) dX12_givesOf_66 rfl ?_
              refine AW.iconst (pc' := 69) dX12_givesOf_68 ?_
              refine AW.iadd (pc' := 70) dX12_givesOf_69 ?_
              refine AW.goto (tgt := 88) dX12_givesOf_70 ?_
              refine AW.iret dX12_givesOf_88 ?_ ?_
              all_goals first | omega | (rcases kk with rfl | rfl | rfl | rfl | rfl | rfl | rfl | rfl <;> first | omega | rfl)
      · refine AW.aload_n (pc' := 28) dX12_givesOf_27 rfl ?_
        refine AW.bipush (pc' := 30) dX12_givesOf_28 (by decide) ?_
        refine AW.invV1v (pc' := 33) dX12_givesOf_30 mlX12_345 mX12_begins ly_57 rfl (c_X12_begins (dep := dep - 1) (a := 20) (by first | omega | (simp only [puM_ran, bgM_ran]; omega)) (by decide)) ?_
        refine AW.iload_n (pc' := 34) dX12_givesOf_33 rfl ?_
        refine AW.bipush (pc' := 36) dX12_givesOf_34 (by decide) ?_
        refine AW.icmp_ne (tgt := 45) (pc' := 39) dX12_givesOf_36 (by first | assumption | omega | (constructor <;> omega) | (simp only [Int.toNat_natCast]; omega) | exact b2_in _) (by first | assumption | omega | (constructor <;> omega) | (simp only [Int.toNat_natCast]; omega) | exact b2_in _) (fun c36 => ?_) (fun c36 => ?_)
        · refine AW.aload_n (pc' := 46) dX12_givesOf_45 rfl ?_
          refine AW.iconst (pc' := 47) dX12_givesOf_46 ?_
          refine AW.invV1v (pc' := 50) dX12_givesOf_47 mlX12_345 mX12_begins ly_57 rfl (c_X12_begins (dep := dep - 1) (a := 1) (by first | omega | (simp only [puM_ran, bgM_ran]; omega)) (by decide)) ?_
          refine AW.iload (pc' := 52) dX12_givesOf_50 rfl ?_
          refine AW.iload_n (pc' := 53) dX12_givesOf_52 rfl ?_
          refine AW.iadd (pc' := 54) dX12_givesOf_53 ?_
          refine AW.istore4 (pc' := 56) dX12_givesOf_54 (by decide) rfl ?_
          refine AW.iload_n (pc' := 57) dX12_givesOf_56 rfl ?_
          refine AW.iconst (pc' := 58) dX12_givesOf_57 ?_
          refine AW.icmp_eq (tgt := 66) (pc' := 61) dX12_givesOf_58 (by first | assumption | omega | (constructor <;> omega) | (simp only [Int.toNat_natCast]; omega) | exact b2_in _) (by first | assumption | omega | (constructor <;> omega) | (simp only [Int.toNat_natCast]; omega) | exact b2_in _) (fun c58 => ?_) (fun c58 => ?_)
          · refine AW.iload (pc' := 68) dX12_givesOf_66 rfl ?_
            refine AW.iconst (pc' := 69) dX12_givesOf_68 ?_
            refine AW.iadd (pc' := 70) dX12_givesOf_69 ?_
            refine AW.goto (tgt := 88) dX12_givesOf_70 ?_
            refine AW.iret dX12_givesOf_88 ?_ ?_
            all_goals first | omega | (rcases kk with rfl | rfl | rfl | rfl | rfl | rfl | rfl | rfl <;> first | omega | rfl)
          · refine AW.iload_n (pc' := 62) dX12_givesOf_61 rfl ?_
            refine AW.iconst (pc' := 63) dX12_givesOf_62 ?_
            refine AW.icmp_ne (tgt := 73) (pc' := 66) dX12_givesOf_63 (by first | assumption | omega | (constructor <;> omega) | (simp only [Int.toNat_natCast]; omega) | exact b2_in _) (by first | assumption | omega | (constructor <;> omega) | (simp only [Int.toNat_natCast]; omega) | exact b2_in _) (fun c63 => ?_) (fun c63 => ?_)
            · refine AW.iload_n (pc' := 74) dX12_givesOf_73 rfl ?_
              refine AW.bipush (pc' := 76) dX12_givesOf_74 (by decide) ?_
              refine AW.icmp_ne (tgt := 86) (pc' := 79) dX12_givesOf_76 (by first | assumption | omega | (constructor <;> omega) | (simp only [Int.toNat_natCast]; omega) | exact b2_in _) (by first | assumption | omega | (constructor <;> omega) | (simp only [Int.toNat_natCast]; omega) | exact b2_in _) (fun c76 => ?_) (fun c76 => ?_)
              · refine AW.iload (pc' := 88) dX12_givesOf_86 rfl ?_
                refine AW.iret dX12_givesOf_88 ?_ ?_
                all_goals first | omega | (rcases kk with rfl | rfl | rfl | rfl | rfl | rfl | rfl | rfl <;> first | omega | rfl)
              · refine AW.iload (pc' := 81) dX12_givesOf_79 rfl ?_
                refine AW.iconst (pc' := 82) dX12_givesOf_81 ?_
                refine AW.imul (pc' := 83) dX12_givesOf_82 ?_
                refine AW.goto (tgt := 88) dX12_givesOf_83 ?_
                refine AW.iret dX12_givesOf_88 ?_ ?_
                all_goals first | omega | (rcases kk with rfl | rfl | rfl | rfl | rfl | rfl | rfl | rfl <;> first | omega | rfl)
            · refine AW.iload (pc' := 68) dX12_givesOf_66 rfl ?_
              refine AW.iconst (pc' := 69) dX12_givesOf_68 ?_
              refine AW.iadd (pc' := 70) dX12_givesOf_69 ?_
              refine AW.goto (tgt := 88) dX12_givesOf_70 ?_
              refine AW.iret dX12_givesOf_88 ?_ ?_
              all_goals first | omega | (rcases kk with rfl | rfl | rfl | rfl | rfl | rfl | rfl | rfl <;> first | omega | rfl)
        · refine AW.aload_n (pc' := 40) dX12_givesOf_39 rfl ?_
          refine AW.bipush (pc' := 42) dX12_givesOf_40 (by decide) ?_
          refine AW.invV1v (pc' := 45) dX12_givesOf_42 mlX12_345 mX12_begins ly_57 rfl (c_X12_begins (dep := dep - 1) (a := 70) (by first | omega | (simp only [puM_ran, bgM_ran]; omega)) (by decide)) ?_
          refine AW.aload_n (pc' := 46) dX12_givesOf_45 rfl ?_
          refine AW.iconst (pc' := 47) dX12_givesOf_46 ?_
          refine AW.invV1v (pc' := 50) dX12_givesOf_47 mlX12_345 mX12_begins ly_57 rfl (c_X12_begins (dep := dep - 1) (a := 1) (by first | omega | (simp only [puM_ran, bgM_ran]; omega)) (by decide)) ?_
          refine AW.iload (pc' := 52) dX12_givesOf_50 rfl ?_
          refine AW.iload_n (pc' := 53) dX12_givesOf_52 rfl ?_
          refine AW.iadd (pc' := 54) dX12_givesOf_53 ?_
          refine AW.istore4 (pc' := 56) dX12_givesOf_54 (by decide) rfl ?_
          refine AW.iload_n (pc' := 57) dX12_givesOf_56 rfl ?_
          refine AW.iconst (pc' := 58) dX12_givesOf_57 ?_
          refine AW.icmp_eq (tgt := 66) (pc' := 61) dX12_givesOf_58 (by first | assumption | omega | (constructor <;> omega) | (simp only [Int.toNat_natCast]; omega) | exact b2_in _) (by first | assumption | omega | (constructor <;> omega) | (simp only [Int.toNat_natCast]; omega) | exact b2_in _) (fun c58 => ?_) (fun c58 => ?_)
          · refine AW.iload (pc' := 68) dX12_givesOf_66 rfl ?_
            refine AW.iconst (pc' := 69) dX12_givesOf_68 ?_
            refine AW.iadd (pc' := 70) dX12_givesOf_69 ?_
            refine AW.goto (tgt := 88) dX12_givesOf_70 ?_
            refine AW.iret dX12_givesOf_88 ?_ ?_
            all_goals first | omega | (rcases kk with rfl | rfl | rfl | rfl | rfl | rfl | rfl | rfl <;> first | omega | rfl)
          · refine AW.iload_n (pc' := 62) dX12_givesOf_61 rfl ?_
            refine AW.iconst (pc' := 63) dX12_givesOf_62 ?_
            refine AW.icmp_ne (tgt := 73) (pc' := 66) dX12_givesOf_63 (by first | assumption | omega | (constructor <;> omega) | (simp only [Int.toNat_natCast]; omega) | exact b2_in _) (by first | assumption | omega | (constructor <;> omega) | (simp only [Int.toNat_natCast]; omega) | exact b2_in _) (fun c63 => ?_) (fun c63 => ?_)
            · refine AW.iload_n (pc' := 74) dX12_givesOf_73 rfl ?_
              refine AW.bipush (pc' := 76) dX12_givesOf_74 (by decide) ?_
              refine AW.icmp_ne (tgt := 86) (pc' := 79) dX12_givesOf_76 (by first | assumption | omega | (constructor <;> omega) | (simp only [Int.toNat_natCast]; omega) | exact b2_in _) (by first | assumption | omega | (constructor <;> omega) | (simp only [Int.toNat_natCast]; omega) | exact b2_in _) (fun c76 => ?_) (fun c76 => ?_)
              · refine AW.iload (pc' := 88) dX12_givesOf_86 rfl ?_
                refine AW.iret dX12_givesOf_88 ?_ ?_
                all_goals first | omega | (rcases kk with rfl | rfl | rfl | rfl | rfl | rfl | rfl | rfl <;> first | omega | rfl)
              · refine AW.iload (pc' := 81) dX12_givesOf_79 rfl ?_
                refine AW.iconst (pc' := 82) dX12_givesOf_81 ?_
                refine AW.imul (pc' := 83) dX12_givesOf_82 ?_
                refine AW.goto (tgt := 88) dX12_givesOf_83 ?_
                refine AW.iret dX12_givesOf_88 ?_ ?_
                all_goals first | omega | (rcases kk with rfl | rfl | rfl | rfl | rfl | rfl | rfl | rfl <;> first | omega | rfl)
            · refine AW.iload (pc' := 68) dX12_givesOf_66 rfl ?_
              refine AW.iconst (pc' := 69) dX12_givesOf_68 ?_
              refine AW.iadd (pc' := 70) dX12_givesOf_69 ?_
              refine AW.goto (tgt := 88) dX12_givesOf_70 ?_
              refine AW.iret dX12_givesOf_88 ?_ ?_
              all_goals first | omega | (rcases kk with rfl | rfl | rfl | rfl | rfl | rfl | rfl | rfl <;> first | omega | rfl)
set_option maxRecDepth 100000 in
set_option maxHeartbeats 4000000 in
theorem c_X12_partsOf {K : KT} {dep : Nat} {h : Hp} {a b c : Int} (hd : 2 ≤ dep) (qk : 0 ≤ a ∧ a ≤ 7) (qr : 0 ≤ h 57 53 ∧ h 57 53 ≤ 1800) : AM K yX12_partsOf cX12_partsOf 5 (some .int) dep [vR 57, vI a, vI b, vI c] h (some (vI (paF a b c))) (bgM (paL a) h) := by
  refine AM.of (own := RX12) (ls := [some (vR 57), some (vI a), some (vI b), some (vI c), none]) rfl (by decide +kernel) (by exact Nat.le_of_ble_eq_true rfl) rfl (fun hO => ?_)
  have kk : a = 0 ∨ a = 1 ∨ a = 2 ∨ a = 3 ∨ a = 4 ∨ a = 5 ∨ a = 6 ∨ a = 7 := by omega
  have ll := gvL_len a
  have l2 := paL_len a
  have l3 := chL_len a
  refine AW.iload_n (pc' := 1) dX12_partsOf_0 rfl ?_
  refine AW.iconst (pc' := 2) dX12_partsOf_1 ?_
  refine AW.icmp_ne (tgt := 11) (pc' := 5) dX12_partsOf_2 (by first | assumption | omega | (constructor <;> omega) | (simp only [Int.toNat_natCast]; omega) | exact b2_in _) (by first | assumption | omega | (constructor <;> omega) | (simp only [Int.toNat_natCast]; omega) | exact b2_in _) (fun c2 => ?_) (fun c2 => ?_)
  · refine AW.iload_n (pc' := 12) dX12_partsOf_11 rfl ?_
    refine AW.iconst (pc' := 13) dX12_partsOf_12 ?_
    refine AW.icmp_eq (tgt := 22) (pc' := 16) dX12_partsOf_13 (by first | assumption | omega | (constructor <;> omega) | (simp only [Int.toNat_natCast]; omega) | exact b2_in _) (by first | assumption | omega | (constructor <;> omega) | (simp only [Int.toNat_natCast]; omega) | exact b2_in _) (fun c13 => ?_) (fun c13 => ?_)
    · refine AW.aload_n (pc' := 23) dX12_partsOf_22 rfl ?_
      refine AW.bipush (pc' := 25) dX12_partsOf_23 (by decide) ?_
      refine AW.invV1v (pc' := 28) dX12_partsOf_25 mlX12_345 mX12_begins ly_57 rfl (c_X12_begins (dep := dep - 1) (a := 50) (by first | omega | (simp only [puM_ran, bgM_ran]; omega)) (by decide)) ?_
      refine AW.aload_n (pc' := 29) dX12_partsOf_28 rfl ?_
      refine AW.bipush (pc' := 31) dX12_partsOf_29 (by decide) ?_
      refine AW.invV1v (pc' := 34) dX12_partsOf_31 mlX12_345 mX12_begins ly_57 rfl (c_X12_begins (dep := dep - 1) (a := 11) (by first | omega | (simp only [puM_ran, bgM_ran]; omega)) (by decide)) ?_
      refine AW.iload_n (pc' := 35) dX12_partsOf_34 rfl ?_
      refine AW.iload_n (pc' := 36) dX12_partsOf_35 rfl ?_
      refine AW.ixor (pc' := 37) dX12_partsOf_36 ?_
      refine AW.top (b := xorI c b) rfl ?_
      refine AW.istore4 (pc' := 39) dX12_partsOf_37 (by decide) rfl ?_
      refine AW.iload_n (pc' := 40) dX12_partsOf_39 rfl ?_
      refine AW.iconst (pc' := 41) dX12_partsOf_40 ?_
      refine AW.icmp_ne (tgt := 51) (pc' := 44) dX12_partsOf_41 (by first | assumption | omega | (constructor <;> omega) | (simp only [Int.toNat_natCast]; omega) | exact b2_in _) (by first | assumption | omega | (constructor <;> omega) | (simp only [Int.toNat_natCast]; omega) | exact b2_in _) (fun c41 => ?_) (fun c41 => ?_)
      · refine AW.iload_n (pc' := 52) dX12_partsOf_51 rfl ?_
        refine AW.iconst (pc' := 53) dX12_partsOf_52 ?_
        refine AW.icmp_eq (tgt := 62) (pc' := 56) dX12_partsOf_53 (by first | assumption | omega | (constructor <;> omega) | (simp only [Int.toNat_natCast]; omega) | exact b2_in _) (by first | assumption | omega | (constructor <;> omega) | (simp only [Int.toNat_natCast]; omega) | exact b2_in _) (fun c53 => ?_) (fun c53 => ?_)
        · refine AW.iload (pc' := 64) dX12_partsOf_62 rfl ?_
          refine AW.aload_n (pc' := 65) dX12_partsOf_64 rfl ?_
          refine AW.iload_n (pc' := 66) dX12_partsOf_65 rfl ?_
          refine AW.iload_n (pc' := 67) dX12_partsOf_66 rfl ?_
          refine AW.iconst (pc' := 68) dX12_partsOf_67 ?_
          refine AW.invV3 (pc' := 71) dX12_partsOf_68 mlX12_348 mX12_givesOf ly_57 rfl (c_X12_givesOf (dep := dep - 1) (a := a) (b := b) (c := 2) (by omega) (by omega) (by first | omega | (simp only [puM_ran, bgM_ran]; omega))) ?_
          refine AW.isub (pc' := 72) dX12_partsOf_71 ?_
          refine AW.goto (tgt := 77) dX12_partsOf_72 ?_
          refine AW.iret dX12_partsOf_77 ?_ ?_
          all_goals first | omega | (rcases kk with rfl | rfl | rfl | rfl | rfl | rfl | rfl | rfl <;> first | omega | rfl)
        · refine AW.iload_n (pc' := 57) dX12_partsOf_56 rfl ?_
          refine AW.bipush (pc' := 59) dX12_partsOf_57 (by decide) ?_
          refine AW.icmp_ne (tgt := 75) (pc' := 62) dX12_partsOf_59 (by first | assumption | omega | (constructor <;> omega) | (simp only [Int.toNat_natCast]; omega) | exact b2_in _) (by first | assumption | omega | (constructor <;> omega) | (simp only [Int.toNat_natCast]; omega) | exact b2_in _) (fun c59 => ?_) (fun c59 => ?_)
          · refine AW.iload (pc' := 77) dX12_partsOf_75 rfl ?_
            refine AW.iret dX12_partsOf_77 ?_ ?_
            all_goals first | omega | (rcases kk with rfl | rfl | rfl | rfl | rfl | rfl | rfl | rfl <;> first | omega | rfl)
          · refine AW.iload (pc' := 64) dX12_partsOf_62 rfl ?_
            refine AW.aload_n (pc' := 65) dX12_partsOf_64 rfl ?_
            refine AW.iload_n (pc' := 66) dX12_partsOf_65 rfl ?_
            refine AW.iload_n (pc' := 67) dX12_partsOf_66 rfl ?_
            refine AW.iconst (pc' := 68) dX12_partsOf_67 ?_
            refine AW.invV3 (pc' := 71) dX12_partsOf_68 mlX12_348 mX12_givesOf ly_57 rfl (c_X12_givesOf (dep := dep - 1) (a := a) (b := b) (c := 2) (by omega) (by omega) (by first | omega | (simp only [puM_ran, bgM_ran]; omega))) ?_
            refine AW.isub (pc' := 72) dX12_partsOf_71 ?_
            refine AW.goto (tgt := 77) dX12_partsOf_72 ?_
            refine AW.iret dX12_partsOf_77 ?_ ?_
            all_goals first | omega | (rcases kk with rfl | rfl | rfl | rfl | rfl | rfl | rfl | rfl <;> first | omega | rfl)
      · refine AW.iload (pc' := 46) dX12_partsOf_44 rfl ?_
        refine AW.iconst (pc' := 47) dX12_partsOf_46 ?_
        refine AW.imul (pc' := 48) dX12_partsOf_47 ?_
        refine AW.goto (tgt := 77) dX12_partsOf_48 ?_
        refine AW.iret dX12_partsOf_77 ?_ ?_
        all_goals first | omega | (rcases kk with rfl | rfl | rfl | rfl | rfl | rfl | rfl | rfl <;> first | omega | rfl)
    · refine AW.iload_n (pc' := 17) dX12_partsOf_16 rfl ?_
      refine AW.bipush (pc' := 19) dX12_partsOf_17 (by decide) ?_
      refine AW.icmp_ne (tgt := 28) (pc' := 22) dX12_partsOf_19 (by first | assumption | omega | (constructor <;> omega) | (simp only [Int.toNat_natCast]; omega) | exact b2_in _) (by first | assumption | omega | (constructor <;> omega) | (simp only [Int.toNat_natCast]; omega) | exact b2_in _) (fun c19 => ?_) (fun c19 => ?_)
      · refine AW.aload_n (pc' := 29) dX12_partsOf_28 rfl ?_
        refine AW.bipush (pc' := 31) dX12_partsOf_29 (by decide) ?_
        refine AW.invV1v (pc' := 34) dX12_partsOf_31 mlX12_345 mX12_begins ly_57 rfl (c_X12_begins (dep := dep - 1) (a := 11) (by first | omega | (simp only [puM_ran, bgM_ran]; omega)) (by decide)) ?_
        refine AW.iload_n (pc' := 35) dX12_partsOf_34 rfl ?_
        refine AW.iload_n (pc' := 36) dX12_partsOf_35 rfl ?_
        refine AW.ixor (pc' := 37) dX12_partsOf_36 ?_
        refine AW.top (b := xorI c b) rfl ?_
        refine AW.istore4 (pc' := 39) dX12_partsOf_37 (by decide) rfl ?_
        refine AW.iload_n (pc' := 40) dX12_partsOf_39 rfl ?_
        refine AW.iconst (pc' := 41) dX12_partsOf_40 ?_
        refine AW.icmp_ne (tgt := 51) (pc' := 44) dX12_partsOf_41 (by first | assumption | omega | (constructor <;> omega) | (simp only [Int.toNat_natCast]; omega) | exact b2_in _) (by first | assumption | omega | (constructor <;> omega) | (simp only [Int.toNat_natCast]; omega) | exact b2_in _) (fun c41 => ?_) (fun c41 => ?_)
        · refine AW.iload_n (pc' := 52) dX12_partsOf_51 rfl ?_
          refine AW.iconst (pc' := 53) dX12_partsOf_52 ?_
          refine AW.icmp_eq (tgt := 62) (pc' := 56) dX12_partsOf_53 (by first | assumption | omega | (constructor <;> omega) | (simp only [Int.toNat_natCast]; omega) | exact b2_in _) (by first | assumption | omega | (constructor <;> omega) | (simp only [Int.toNat_natCast]; omega) | exact b2_in _) (fun c53 => ?_) (fun c53 => ?_)
          · refine AW.iload (pc' := 64) dX12_partsOf_62 rfl ?_
            refine AW.aload_n (pc' := 65) dX12_partsOf_64 rfl ?_
            refine AW.iload_n (pc' := 66) dX12_partsOf_65 rfl ?_
            refine AW.iload_n (pc' := 67) dX12_partsOf_66 rfl ?_
            refine AW.iconst (pc' := 68) dX12_partsOf_67 ?_
            refine AW.invV3 (pc' := 71) dX12_partsOf_68 mlX12_348 mX12_givesOf ly_57 rfl (c_X12_givesOf (dep := dep - 1) (a := a) (b := b) (c := 2) (by omega) (by omega) (by first | omega | (simp only [puM_ran, bgM_ran]; omega))) ?_
            refine AW.isub (pc' := 72) dX12_partsOf_71 ?_
            refine AW.goto (tgt := 77) dX12_partsOf_72 ?_
            refine AW.iret dX12_partsOf_77 ?_ ?_
            all_goals first | omega | (rcases kk with rfl | rfl | rfl | rfl | rfl | rfl | rfl | rfl <;> first | omega | rfl)
          · refine AW.iload_n (pc' := 57) dX12_partsOf_56 rfl ?_
            refine AW.bipush (pc' := 59) dX12_partsOf_57 (by decide) ?_
            refine AW.icmp_ne (tgt := 75) (pc' := 62) dX12_partsOf_59 (by first | assumption | omega | (constructor <;> omega) | (simp only [Int.toNat_natCast]; omega) | exact b2_in _) (by first | assumption | omega | (constructor <;> omega) | (simp only [Int.toNat_natCast]; omega) | exact b2_in _) (fun c59 => ?_) (fun c59 => ?_)
            · refine AW.iload (pc' := 77) dX12_partsOf_75 rfl ?_
              refine AW.iret dX12_partsOf_77 ?_ ?_
              all_goals first | omega | (rcases kk with rfl | rfl | rfl | rfl | rfl | rfl | rfl | rfl <;> first | omega | rfl)
            · refine AW.iload (pc' := 64) dX12_partsOf_62 rfl ?_
              refine AW.aload_n (pc' := 65) dX12_partsOf_64 rfl ?_
              refine AW.iload_n (pc' := 66) dX12_partsOf_65 rfl ?_
              refine AW.iload_n (pc' := 67) dX12_partsOf_66 rfl ?_
              refine AW.iconst (pc' := 68) dX12_partsOf_67 ?_
              refine AW.invV3 (pc' := 71) dX12_partsOf_68 mlX12_348 mX12_givesOf ly_57 rfl (c_X12_givesOf (dep := dep - 1) (a := a) (b := b) (c := 2) (by omega) (by omega) (by first | omega | (simp only [puM_ran, bgM_ran]; omega))) ?_
              refine AW.isub (pc' := 72) dX12_partsOf_71 ?_
              refine AW.goto (tgt := 77) dX12_partsOf_72 ?_
              refine AW.iret dX12_partsOf_77 ?_ ?_
              all_goals first | omega | (rcases kk with rfl | rfl | rfl | rfl | rfl | rfl | rfl | rfl <;> first | omega | rfl)
        · refine AW.iload (pc' := 46) dX12_partsOf_44 rfl ?_
          refine AW.iconst (pc' := 47) dX12_partsOf_46 ?_
          refine AW.imul (pc' := 48) dX12_partsOf_47 ?_
          refine AW.goto (tgt := 77) dX12_partsOf_48 ?_
          refine AW.iret dX12_partsOf_77 ?_ ?_
          all_goals first | omega | (rcases kk with rfl | rfl | rfl | rfl | rfl | rfl | rfl | rfl <;> first | omega | rfl)
      · refine AW.aload_n (pc' := 23) dX12_partsOf_22 rfl ?_
        refine AW.bipush (pc' := 25) dX12_partsOf_23 (by decide) ?_
        refine AW.invV1v (pc' := 28) dX12_partsOf_25 mlX12_345 mX12_begins ly_57 rfl (c_X12_begins (dep := dep - 1) (a := 50) (by first | omega | (simp only [puM_ran, bgM_ran]; omega)) (by decide)) ?_
        refine AW.aload_n (pc' := 29) dX12_partsOf_28 rfl ?_
        refine AW.bipush (pc' := 31) dX12_partsOf_29 (by decide) ?_
        refine AW.invV1v (pc' := 34) dX12_partsOf_31 mlX12_345 mX12_begins ly_57 rfl (c_X12_begins (dep := dep - 1) (a := 11) (by first | omega | (simp only [puM_ran, bgM_ran]; omega)) (by decide)) ?_
        refine AW.iload_n (pc' := 35) dX12_partsOf_34 rfl ?_
        refine AW.iload_n (pc' := 36) dX12_partsOf_35 rfl ?_
        refine AW.ixor (pc' := 37) dX12_partsOf_36 ?_
        refine AW.top (b := xorI c b) rfl ?_
        refine AW.istore4 (pc' := 39) dX12_partsOf_37 (by decide) rfl ?_
        refine AW.iload_n (pc' := 40) dX12_partsOf_39 rfl ?_
        refine AW.iconst (pc' := 41) dX12_partsOf_40 ?_
        refine AW.icmp_ne (tgt := 51) (pc' := 44) dX12_partsOf_41 (by first | assumption | omega | (constructor <;> omega) | (simp only [Int.toNat_natCast]; omega) | exact b2_in _) (by first | assumption | omega | (constructor <;> omega) | (simp only [Int.toNat_natCast]; omega) | exact b2_in _) (fun c41 => ?_) (fun c41 => ?_)
        · refine AW.iload_n (pc' := 52) dX12_partsOf_51 rfl ?_
          refine AW.iconst (pc' := 53) dX12_partsOf_52 ?_
          refine AW.icmp_eq (tgt := 62) (pc' := 56) dX12_partsOf_53 (by first | assumption | omega | (constructor <;> omega) | (simp only [Int.toNat_natCast]; omega) | exact b2_in _) (by first | assumption | omega | (constructor <;> omega) | (simp only [Int.toNat_natCast]; omega) | exact b2_in _) (fun c53 => ?_) (fun c53 => ?_)
          · refine AW.iload (pc' := 64) dX12_partsOf_62 rfl ?_
            refine AW.aload_n (pc' := 65) dX12_partsOf_64 rfl ?_
            refine AW.iload_n (pc' := 66) dX12_partsOf_65 rfl ?_
            refine AW.iload_n (pc' := 67) dX12_partsOf_66 rfl ?_
            refine AW.iconst (pc' := 68) dX12_partsOf_67 ?_
            refine AW.invV3 (pc' := 71) dX12_partsOf_68 mlX12_348 mX12_givesOf ly_57 rfl (c_X12_givesOf (dep := dep - 1) (a := a) (b := b) (c := 2) (by omega) (by omega) (by first | omega | (simp only [puM_ran, bgM_ran]; omega))) ?_
            refine AW.isub (pc' := 72) dX12_partsOf_71 ?_
            refine AW.goto (tgt := 77) dX12_partsOf_72 ?_
            refine AW.iret dX12_partsOf_77 ?_ ?_
            all_goals first | omega | (rcases kk with rfl | rfl | rfl | rfl | rfl | rfl | rfl | rfl <;> first | omega | rfl)
          · refine AW.iload_n (pc' := 57) dX12_partsOf_56 rfl ?_
            refine AW.bipush (pc' := 59) dX12_partsOf_57 (by decide) ?_
            refine AW.icmp_ne (tgt := 75) (pc' := 62) dX12_partsOf_59 (by first | assumption | omega | (constructor <;> omega) | (simp only [Int.toNat_natCast]; omega) | exact b2_in _) (by first | assumption | omega | (constructor <;> omega) | (simp only [Int.toNat_natCast]; omega) | exact b2_in _) (fun c59 => ?_) (fun c59 => ?_)
            · refine AW.iload (pc' := 77) dX12_partsOf_75 rfl ?_
              refine AW.iret dX12_partsOf_77 ?_ ?_
              all_goals first | omega | (rcases kk with rfl | rfl | rfl | rfl | rfl | rfl | rfl | rfl <;> first | omega | rfl)
            · refine AW.iload (pc' := 64) dX12_partsOf_62 rfl ?_
              refine AW.aload_n (pc' := 65) dX12_partsOf_64 rfl ?_
              refine AW.iload_n (pc' := 66) dX12_partsOf_65 rfl ?_
              refine AW.iload_n (pc' := 67) dX12_partsOf_66 rfl ?_
              refine AW.iconst (pc' := 68) dX12_partsOf_67 ?_
              refine AW.invV3 (pc' := 71) dX12_partsOf_68 mlX12_348 mX12_givesOf ly_57 rfl (c_X12_givesOf (dep := dep - 1) (a := a) (b := b) (c := 2) (by omega) (by omega) (by first | omega | (simp only [puM_ran, bgM_ran]; omega))) ?_
              refine AW.isub (pc' := 72) dX12_partsOf_71 ?_
              refine AW.goto (tgt := 77) dX12_partsOf_72 ?_
              refine AW.iret dX12_partsOf_77 ?_ ?_
              all_goals first | omega | (rcases kk with rfl | rfl | rfl | rfl | rfl | rfl | rfl | rfl <;> first | omega | rfl)
        · refine AW.iload (pc' := 46) dX12_partsOf_44 rfl ?_
          refine AW.iconst (pc' := 47) dX12_partsOf_46 ?_
          refine AW.imul (pc' := 48) dX12_partsOf_47 ?_
          refine AW.goto (tgt := 77) dX12_partsOf_48 ?_
          refine AW.iret dX12_partsOf_77 ?_ ?_
          all_goals first | omega | (rcases kk with rfl | rfl | rfl | rfl | rfl | rfl | rfl | rfl <;> first | omega | rfl)
  · refine AW.aload_n (pc' := 6) dX12_partsOf_5 rfl ?_
    refine AW.bipush (pc' := 8) dX12_partsOf_6 (by decide) ?_
    refine AW.invV1v (pc' := 11) dX12_partsOf_8 mlX12_345 mX12_begins ly_57 rfl (c_X12_begins (dep := dep - 1) (a := 40) (by first | omega | (simp only [puM_ran, bgM_ran]; omega)) (by decide)) ?_
    refine AW.iload_n (pc' := 12) dX12_partsOf_11 rfl ?_
    refine AW.iconst (pc' := 13) dX12_partsOf_12 ?_
    refine AW.icmp_eq (tgt := 22) (pc' := 16) dX12_partsOf_13 (by first | assumption | omega | (constructor <;> omega) | (simp only [Int.toNat_natCast]; omega) | exact b2_in _) (by first | assumption | omega | (constructor <;> omega) | (simp only [Int.toNat_natCast]; omega) | exact b2_in _) (fun c13 => ?_) (fun c13 => ?_)
    · refine AW.aload_n (pc' := 23) dX12_partsOf_22 rfl ?_
      refine AW.bipush (pc' := 25) dX12_partsOf_23 (by decide) ?_
      refine AW.invV1v (pc' := 28) dX12_partsOf_25 mlX12_345 mX12_begins ly_57 rfl (c_X12_begins (dep := dep - 1) (a := 50) (by first | omega | (simp only [puM_ran, bgM_ran]; omega)) (by decide)) ?_
      refine AW.aload_n (pc' := 29) dX12_partsOf_28 rfl ?_
      refine AW.bipush (pc' := 31) dX12_partsOf_29 (by decide) ?_
      refine AW.invV1v (pc' := 34) dX12_partsOf_31 mlX12_345 mX12_begins ly_57 rfl (c_X12_begins (dep := dep - 1) (a := 11) (by first | omega | (simp only [puM_ran, bgM_ran]; omega)) (by decide)) ?_
      refine AW.iload_n (pc' := 35) dX12_partsOf_34 rfl ?_
      refine AW.iload_n (pc' := 36) dX12_partsOf_35 rfl ?_
      refine AW.ixor (pc' := 37) dX12_partsOf_36 ?_
      refine AW.top (b := xorI c b) rfl ?_
      refine AW.istore4 (pc' := 39) dX12_partsOf_37 (by decide) rfl ?_
      refine AW.iload_n (pc' := 40) dX12_partsOf_39 rfl ?_
      refine AW.iconst (pc' := 41) dX12_partsOf_40 ?_
      refine AW.icmp_ne (tgt := 51) (pc' := 44) dX12_partsOf_41 (by first | assumption | omega | (constructor <;> omega) | (simp only [Int.toNat_natCast]; omega) | exact b2_in _) (by first | assumption | omega | (constructor <;> omega) | (simp only [Int.toNat_natCast]; omega) | exact b2_in _) (fun c41 => ?_) (fun c41 => ?_)
      · refine AW.iload_n (pc' := 52) dX12_partsOf_51 rfl ?_
        refine AW.iconst (pc' := 53) dX12_partsOf_52 ?_
        refine AW.icmp_eq (tgt := 62) (pc' := 56) dX12_partsOf_53 (by first | assumption | omega | (constructor <;> omega) | (simp only [Int.toNat_natCast]; omega) | exact b2_in _) (by first | assumption | omega | (constructor <;> omega) | (simp only [Int.toNat_natCast]; omega) | exact b2_in _) (fun c53 => ?_) (fun c53 => ?_)
        · refine AW.iload (pc' := 64) dX12_partsOf_62 rfl ?_
          refine AW.aload_n (pc' := 65) dX12_partsOf_64 rfl ?_
          refine AW.iload_n (pc' := 66) dX12_partsOf_65 rfl ?_
          refine AW.iload_n (pc' := 67) dX12_partsOf_66 rfl ?_
          refine AW.iconst (pc' := 68) dX12_partsOf_67 ?_
          refine AW.invV3 (pc' := 71) dX12_partsOf_68 mlX12_348 mX12_givesOf ly_57 rfl (c_X12_givesOf (dep := dep - 1) (a := a) (b := b) (c := 2) (by omega) (by omega) (by first | omega | (simp only [puM_ran, bgM_ran]; omega))) ?_
          refine AW.isub (pc' := 72) dX12_partsOf_71 ?_
          refine AW.goto (tgt := 77) dX12_partsOf_72 ?_
          refine AW.iret dX12_partsOf_77 ?_ ?_
          all_goals first | omega | (rcases kk with rfl | rfl | rfl | rfl | rfl | rfl | rfl | rfl <;> first | omega | rfl)
        · refine AW.iload_n (pc' := 57) dX12_partsOf_56 rfl ?_
          refine AW.bipush (pc' := 59) dX12_partsOf_57 (by decide) ?_
          refine AW.icmp_ne (tgt := 75) (pc' := 62) dX12_partsOf_59 (by first | assumption | omega | (constructor <;> omega) | (simp only [Int.toNat_natCast]; omega) | exact b2_in _) (by first | assumption | omega | (constructor <;> omega) | (simp only [Int.toNat_natCast]; omega) | exact b2_in _) (fun c59 => ?_) (fun c59 => ?_)
          · refine AW.iload (pc' := 77) dX12_partsOf_75 rfl ?_
            refine AW.iret dX12_partsOf_77 ?_ ?_
            all_goals first | omega | (rcases kk with rfl | rfl | rfl | rfl | rfl | rfl | rfl | rfl <;> first | omega | rfl)
          · refine AW.iload (pc' := 64) dX12_partsOf_62 rfl ?_
            refine AW.aload_n (pc' := 65) dX12_partsOf_64 rfl ?_
            refine AW.iload_n (pc' := 66) dX12_partsOf_65 rfl ?_
            refine AW.iload_n (pc' := 67) dX12_partsOf_66 rfl ?_
            refine AW.iconst (pc' := 68) dX12_partsOf_67 ?_
            refine AW.invV3 (pc' := 71) dX12_partsOf_68 mlX12_348 mX12_givesOf ly_57 rfl (c_X12_givesOf (dep := dep - 1) (a := a) (b := b) (c := 2) (by omega) (by omega) (by first | omega | (simp only [puM_ran, bgM_ran]; omega))) ?_
            refine AW.isub (pc' := 72) dX12_partsOf_71 ?_
            refine AW.goto (tgt := 77) dX12_partsOf_72 ?_
            refine AW.iret dX12_partsOf_77 ?_ ?_
            all_goals first | omega | (rcases kk with rfl | rfl | rfl | rfl | rfl | rfl | rfl | rfl <;> first | omega | rfl)
      · refine AW.iload (pc' := 46) dX12_partsOf_44 rfl ?_
        refine AW.iconst (pc' := 47) dX12_partsOf_46 ?_
        refine AW.imul (pc' := 48) dX12_partsOf_47 ?_
        refine AW.goto (tgt := 77) dX12_partsOf_48 ?_
        refine AW.iret dX12_partsOf_77 ?_ ?_
        all_goals first | omega | (rcases kk with rfl | rfl | rfl | rfl | rfl | rfl | rfl | rfl <;> first | omega | rfl)
    · refine AW.iload_n (pc' := 17) dX12_partsOf_16 rfl ?_
      refine AW.bipush (pc' := 19) dX12_partsOf_17 (by decide) ?_
      refine AW.icmp_ne (tgt := 28) (pc' := 22) dX12_partsOf_19 (by first | assumption | omega | (constructor <;> omega) | (simp only [Int.toNat_natCast]; omega) | exact b2_in _) (by first | assumption | omega | (constructor <;> omega) | (simp only [Int.toNat_natCast]; omega) | exact b2_in _) (fun c19 => ?_) (fun c19 => ?_)
      · refine AW.aload_n (pc' := 29) dX12_partsOf_28 rfl ?_
        refine AW.bipush (pc' := 31) dX12_partsOf_29 (by decide) ?_
        refine AW.invV1v (pc' := 34) dX12_partsOf_31 mlX12_345 mX12_begins ly_57 rfl (c_X12_begins (dep := dep - 1) (a := 11) (by first | omega | (simp only [puM_ran, bgM_ran]; omega)) (by decide)) ?_
        refine AW.iload_n (pc' := 35) dX12_partsOf_34 rfl ?_
        refine AW.iload_n (pc' := 36) dX12_partsOf_35 rfl ?_
        refine AW.ixor (pc' := 37) dX12_partsOf_36 ?_
        refine AW.top (b := xorI c b) rfl ?_
        refine AW.istore4 (pc' := 39) dX12_partsOf_37 (by decide) rfl ?_
        refine AW.iload_n (pc' := 40) dX12_partsOf_39 rfl ?_
        refine AW.iconst (pc' := 41) dX12_partsOf_40 ?_
        refine AW.icmp_ne (tgt := 51) (pc' := 44) dX12_partsOf_41 (by first | assumption | omega | (constructor <;> omega) | (simp only [Int.toNat_natCast]; omega) | exact b2_in _) (by first | assumption | omega | (constructor <;> omega) | (simp only [Int.toNat_natCast]; omega) | exact b2_in _) (fun c41 => ?_) (fun c41 => ?_)
        · refine AW.iload_n (pc' := 52) dX12_partsOf_51 rfl ?_
          refine AW.iconst (pc' := 53) dX12_partsOf_52 ?_
          refine AW.icmp_eq (tgt := 62) (pc' := 56) dX12_partsOf_53 (by first | assumption | omega | (constructor <;> omega) | (simp only [Int.toNat_natCast]; omega) | exact b2_in _) (by first | assumption | omega | (constructor <;> omega) | (simp only [Int.toNat_natCast]; omega) | exact b2_in _) (fun c53 => ?_) (fun c53 => ?_)
          · refine AW.iload (pc' := 64) dX12_partsOf_62 rfl ?_
            refine AW.aload_n (pc' := 65) dX12_partsOf_64 rfl ?_
            refine AW.iload_n (pc' := 66) dX12_partsOf_65 rfl ?_
            refine AW.iload_n (pc' := 67) dX12_partsOf_66 rfl ?_
            refine AW.iconst (pc' := 68) dX12_partsOf_67 ?_
            refine AW.invV3 (pc' := 71) dX12_partsOf_68 mlX12_348 mX12_givesOf ly_57 rfl (c_X12_givesOf (dep := dep - 1) (a := a) (b := b) (c := 2) (by omega) (by omega) (by first | omega | (simp only [puM_ran, bgM_ran]; omega))) ?_
            refine AW.isub (pc' := 72) dX12_partsOf_71 ?_
            refine AW.goto (tgt := 77) dX12_partsOf_72 ?_
            refine AW.iret dX12_partsOf_77 ?_ ?_
            all_goals first | omega | (rcases kk with rfl | rfl | rfl | rfl | rfl | rfl | rfl | rfl <;> first | omega | rfl)
          · refine AW.iload_n (pc' := 57) dX12_partsOf_56 rfl ?_
            refine AW.bipush (pc' := 59) dX12_partsOf_57 (by decide) ?_
            refine AW.icmp_ne (tgt := 75) (pc' := 62) dX12_partsOf_59 (by first | assumption | omega | (constructor <;> omega) | (simp only [Int.toNat_natCast]; omega) | exact b2_in _) (by first | assumption | omega | (constructor <;> omega) | (simp only [Int.toNat_natCast]; omega) | exact b2_in _) (fun c59 => ?_) (fun c59 => ?_)
            · refine AW.iload (pc' := 77) dX12_partsOf_75 rfl ?_
              refine AW.iret dX12_partsOf_77 ?_ ?_
              all_goals first | omega | (rcases kk with rfl | rfl | rfl | rfl | rfl | rfl | rfl | rfl <;> first | omega | rfl)
            · refine AW.iload (pc' := 64) dX12_partsOf_62 rfl ?_
              refine AW.aload_n (pc' := 65) dX12_partsOf_64 rfl ?_
              refine AW.iload_n (pc' := 66) dX12_partsOf_65 rfl ?_
              refine AW.iload_n (pc' := 67) dX12_partsOf_66 rfl ?_
              refine AW.iconst (pc' := 68) dX12_partsOf_67 ?_
              refine AW.invV3 (pc' := 71) dX12_partsOf_68 mlX12_348 mX12_givesOf ly_57 rfl (c_X12_givesOf (dep := dep - 1) (a := a) (b := b) (c := 2) (by omega) (by omega) (by first | omega | (simp only [puM_ran, bgM_ran]; omega))) ?_
              refine AW.isub (pc' := 72) dX12_partsOf_71 ?_
              refine AW.goto (tgt := 77) dX12_partsOf_72 ?_
              refine AW.iret dX12_partsOf_77 ?_ ?_
              all_goals first | omega | (rcases kk with rfl | rfl | rfl | rfl | rfl | rfl | rfl | rfl <;> first | omega | rfl)
        · refine AW.iload (pc' := 46) dX12_partsOf_44 rfl ?_
          refine AW.iconst (pc' := 47) dX12_partsOf_46 ?_
          refine AW.imul (pc' := 48) dX12_partsOf_47 ?_
          refine AW.goto (tgt := 77) dX12_partsOf_48 ?_
          refine AW.iret dX12_partsOf_77 ?_ ?_
          all_goals first | omega | (rcases kk with rfl | rfl | rfl | rfl | rfl | rfl | rfl | rfl <;> first | omega | rfl)
      · refine AW.aload_n (pc' := 23) dX12_partsOf_22 rfl ?_
        refine AW.bipush (pc' := 25) dX12_partsOf_23 (by decide) ?_
        refine AW.invV1v (pc' := 28) dX12_partsOf_25 mlX12_345 mX12_begins ly_57 rfl (c_X12_begins (dep := dep - 1) (a := 50) (by first | omega | (simp only [puM_ran, bgM_ran]; omega)) (by decide)) ?_
        refine AW.aload_n (pc' := 29) dX12_partsOf_28 rfl ?_
        refine AW.bipush (pc' := 31) dX12_partsOf_29 (by decide) ?_
        refine AW.invV1v (pc' := 34) dX12_partsOf_31 mlX12_345 mX12_begins ly_57 rfl (c_X12_begins (dep := dep - 1) (a := 11) (by first | omega | (simp only [puM_ran, bgM_ran]; omega)) (by decide)) ?_
        refine AW.iload_n (pc' := 35) dX12_partsOf_34 rfl ?_
        refine AW.iload_n (pc' := 36) dX12_partsOf_35 rfl ?_
        refine AW.ixor (pc' := 37) dX12_partsOf_36 ?_
        refine AW.top (b := xorI c b) rfl ?_
        refine AW.istore4 (pc' := 39) dX12_partsOf_37 (by decide) rfl ?_
        refine AW.iload_n (pc' := 40) dX12_partsOf_39 rfl ?_
        refine AW.iconst (pc' := 41) dX12_partsOf_40 ?_
        refine AW.icmp_ne (tgt := 51) (pc' := 44) dX12_partsOf_41 (by first | assumption | omega | (constructor <;> omega) | (simp only [Int.toNat_natCast]; omega) | exact b2_in _) (by first | assumption | omega | (constructor <;> omega) | (simp only [Int.toNat_natCast]; omega) | exact b2_in _) (fun c41 => ?_) (fun c41 => ?_)
        · refine AW.iload_n (pc' := 52) dX12_partsOf_51 rfl ?_
          refine AW.iconst (pc' := 53) dX12_partsOf_52 ?_
          refine AW.icmp_eq (tgt := 62) (pc' := 56) dX12_partsOf_53 (by first | assumption | omega | (constructor <;> omega) | (simp only [Int.toNat_natCast]; omega) | exact b2_in _) (by first | assumption | omega | (constructor <;> omega) | (simp only [Int.toNat_natCast]; omega) | exact b2_in _) (fun c53 => ?_) (fun c53 => ?_)
          · refine AW.iload (pc' := 64) dX12_partsOf_62 rfl ?_
            refine AW.aload_n (pc' := 65) dX12_partsOf_64 rfl ?_
            refine AW.iload_n (pc' := 66) dX12_partsOf_65 rfl ?_
            refine AW.iload_n (pc' := 67) dX12_partsOf_66 rfl ?_
            refine AW.iconst (pc' := 68) dX12_partsOf_67 ?_
            refine AW.invV3 (pc' := 71) dX12_partsOf_68 mlX12_348 mX12_givesOf ly_57 rfl (c_X12_givesOf (dep := dep - 1) (a := a) (b := b) (c := 2) (by omega) (by omega) (by first | omega | (simp only [puM_ran, bgM_ran]; omega))) ?_
            refine AW.isub (pc' := 72) dX12_partsOf_71 ?_
            refine AW.goto (tgt := 77) dX12_partsOf_72 ?_
            refine AW.iret dX12_partsOf_77 ?_ ?_
            all_goals first | omega | (rcases kk with rfl | rfl | rfl | rfl | rfl | rfl | rfl | rfl <;> first | omega | rfl)
          · refine AW.iload_n (pc' := 57) dX12_partsOf_56 rfl ?_
            refine AW.bipush (pc' := 59) dX12_partsOf_57 (by decide) ?_
            refine AW.icmp_ne (tgt := 75) (pc' := 62) dX12_partsOf_59 (by first | assumption | omega | (constructor <;> omega) | (simp only [Int.toNat_natCast]; omega) | exact b2_in _) (by first | assumption | omega | (constructor <;> omega) | (simp only [Int.toNat_natCast]; omega) | exact b2_in _) (fun c59 => ?_) (fun c59 => ?_)
            · refine AW.iload (pc' := 77) dX12_partsOf_75 rfl ?_
              refine AW.iret dX12_partsOf_77 ?_ ?_
              all_goals first | omega | (rcases kk with rfl | rfl | rfl | rfl | rfl | rfl | rfl | rfl <;> first | omega | rfl)
            · refine AW.iload (pc' := 64) dX12_partsOf_62 rfl ?_
              refine AW.aload_n (pc' := 65) dX12_partsOf_64 rfl ?_
              refine AW.iload_n (pc' := 66) dX12_partsOf_65 rfl ?_
              refine AW.iload_n (pc' := 67) dX12_partsOf_66 rfl ?_
              refine AW.iconst (pc' := 68) dX12_partsOf_67 ?_
              refine AW.invV3 (pc' := 71) dX12_partsOf_68 mlX12_348 mX12_givesOf ly_57 rfl (c_X12_givesOf (dep := dep - 1) (a := a) (b := b) (c := 2) (by omega) (by omega) (by first | omega | (simp only [puM_ran, bgM_ran]; omega))) ?_
              refine AW.isub (pc' := 72) dX12_partsOf_71 ?_
              refine AW.goto (tgt := 77) dX12_partsOf_72 ?_
              refine AW.iret dX12_partsOf_77 ?_ ?_
              all_goals first | omega | (rcases kk with rfl | rfl | rfl | rfl | rfl | rfl | rfl | rfl <;> first | omega | rfl)
        · refine AW.iload (pc' := 46) dX12_partsOf_44 rfl ?_
          refine AW.iconst (pc' := 47) dX12_partsOf_46 ?_
          refine AW.imul (pc' := 48) dX12_partsOf_47 ?_
          refine AW.goto (tgt := 77) dX12_partsOf_48 ?_
          refine AW.iret dX12_partsOf_77 ?_ ?_
          all_goals first | omega | (rcases kk with rfl | rfl | rfl | rfl | rfl | rfl | rfl | rfl <;> first | omega | rfl)
set_option maxRecDepth 100000 in
set_option maxHeartbeats 4000000 in
theorem c_X12_choosesOf {K : KT} {dep : Nat} {h : Hp} {a b c : Int} (hd : 3 ≤ dep) (qk : 0 ≤ a ∧ a ≤ 7) (qr : 0 ≤ h 57 53 ∧ h 57 53 ≤ 1500) : AM K yX12_choosesOf cX12_choosesOf 5 (some .int) dep [vR 57, vI a, vI b, vI c] h (some (vI (chF a b c))) (bgM (chL a) h) := by
  refine AM.of (own := RX12) (ls := [some (vR 57), some (vI a), some (vI b), some (vI c), none]) rfl (by decide +kernel) (by exact Nat.le_of_ble_eq_true rfl) rfl (fun hO => ?_)
  have kk : a = 0 ∨ a = 1 ∨ a = 2 ∨ a = 3 ∨ a = 4 ∨ a = 5 ∨ a = 6 ∨ a = 7 := by omega
  have ll := gvL_len a
  have l2 := paL_len a
  have l3 := chL_len a
  refine AW.iload_n (pc' := 1) dX12_choosesOf_0 rfl ?_
  refine AW.iconst (pc' := 2) dX12_choosesOf_1 ?_
  refine AW.icmp_eq (tgt := 10) (pc' := 5) dX12_choosesOf_2 (by first | assumption | omega | (constructor <;> omega) | (simp only [Int.toNat_natCast]; omega) | exact b2_in _) (by first | assumption | omega | (constructor <;> omega) | (simp only [Int.toNat_natCast]; omega) | exact b2_in _) (fun c2 => ?_) (fun c2 => ?_)
  · refine AW.aload_n (pc' := 11) dX12_choosesOf_10 rfl ?_
    refine AW.bipush (pc' := 13) dX12_choosesOf_11 (by decide) ?_
    refine AW.invV1v (pc' := 16) dX12_choosesOf_13 mlX12_345 mX12_begins ly_57 rfl (c_X12_begins (dep := dep - 1) (a := 30) (by first | omega | (simp only [puM_ran, bgM_ran]; omega)) (by decide)) ?_
    refine AW.iload_n (pc' := 17) dX12_choosesOf_16 rfl ?_
    refine AW.bipush (pc' := 19) dX12_choosesOf_17 (by decide) ?_
    refine AW.icmp_ne (tgt := 28) (pc' := 22) dX12_choosesOf_19 (by first | assumption | omega | (constructor <;> omega) | (simp only [Int.toNat_natCast]; omega) | exact b2_in _) (by first | assumption | omega | (constructor <;> omega) | (simp only [Int.toNat_natCast]; omega) | exact b2_in _) (fun c19 => ?_) (fun c19 => ?_)
    · refine AW.aload_n (pc' := 29) dX12_choosesOf_28 rfl ?_
      refine AW.bipush (pc' := 31) dX12_choosesOf_29 (by decide) ?_
      refine AW.invV1v (pc' := 34) dX12_choosesOf_31 mlX12_345 mX12_begins ly_57 rfl (c_X12_begins (dep := dep - 1) (a := 10) (by first | omega | (simp only [puM_ran, bgM_ran]; omega)) (by decide)) ?_
      refine AW.aload_n (pc' := 35) dX12_choosesOf_34 rfl ?_
      refine AW.iload_n (pc' := 36) dX12_choosesOf_35 rfl ?_
      refine AW.iload_n (pc' := 37) dX12_choosesOf_36 rfl ?_
      refine AW.iload_n (pc' := 38) dX12_choosesOf_37 rfl ?_
      refine AW.invV3 (pc' := 41) dX12_choosesOf_38 mlX12_348 mX12_givesOf ly_57 rfl (c_X12_givesOf (dep := dep - 1) (a := a) (b := b) (c := c) (by omega) (by omega) (by first | omega | (simp only [puM_ran, bgM_ran]; omega))) ?_
      refine AW.iconst (pc' := 42) dX12_choosesOf_41 ?_
      refine AW.imul (pc' := 43) dX12_choosesOf_42 ?_
      refine AW.istore4 (pc' := 45) dX12_choosesOf_43 (by decide) rfl ?_
      refine AW.iload_n (pc' := 46) dX12_choosesOf_45 rfl ?_
      refine AW.iconst (pc' := 47) dX12_choosesOf_46 ?_
      refine AW.icmp_eq (tgt := 55) (pc' := 50) dX12_choosesOf_47 (by first | assumption | omega | (constructor <;> omega) | (simp only [Int.toNat_natCast]; omega) | exact b2_in _) (by first | assumption | omega | (constructor <;> omega) | (simp only [Int.toNat_natCast]; omega) | exact b2_in _) (fun c47 => ?_) (fun c47 => ?_)
      · refine AW.iload (pc' := 57) dX12_choosesOf_55 rfl ?_
        refine AW.ineg (pc' := 58) dX12_choosesOf_57 ?_
        refine AW.goto (tgt := 82) dX12_choosesOf_58 ?_
        refine AW.iret dX12_choosesOf_82 ?_ ?_
        all_goals first | omega | (rcases kk with rfl | rfl | rfl | rfl | rfl | rfl | rfl | rfl <;> first | omega | rfl | exact (bgM_app _ _ _).symm)
      · refine AW.iload_n (pc' := 51) dX12_choosesOf_50 rfl ?_
        refine AW.iconst (pc' := 52) dX12_choosesOf_51 ?_
        refine AW.icmp_ne (tgt := 61) (pc' := 55) dX12_choosesOf_52 (by first | assumption | omega | (constructor <;> omega) | (simp only [Int.toNat_natCast]; omega) | exact b2_in _) (by first | assumption | omega | (constructor <;> omega) | (simp only [Int.toNat_natCast]; omega) | exact b2_in _) (fun c52 => ?_) (fun c52 => ?_)
        · refine AW.iload_n (pc' := 62) dX12_choosesOf_61 rfl ?_
          refine AW.bipush (pc' := 64) dX12_choosesOf_62 (by decide) ?_
          refine AW.icmp_ne (tgt := 80) (pc' := 67) dX12_choosesOf_64 (by first | assumption | omega | (constructor <;> omega) | (simp only [Int.toNat_natCast]; omega) | exact b2_in _) (by first | assumption | omega | (constructor <;> omega) | (simp only [Int.toNat_natCast]; omega) | exact b2_in _) (fun c64 => ?_) (fun c64 => ?_)
          · refine AW.iload (pc' := 82) dX12_choosesOf_80 rfl ?_
            refine AW.iret dX12_choosesOf_82 ?_ ?_
            all_goals first | omega | (rcases kk with rfl | rfl | rfl | rfl | rfl | rfl | rfl | rfl <;> first | omega | rfl | exact (bgM_app _ _ _).symm)
          · refine AW.iload (pc' := 69) dX12_choosesOf_67 rfl ?_
            refine AW.aload_n (pc' := 70) dX12_choosesOf_69 rfl ?_
            refine AW.iload_n (pc' := 71) dX12_choosesOf_70 rfl ?_
            refine AW.iload_n (pc' := 72) dX12_choosesOf_71 rfl ?_
            refine AW.iconst (pc' := 73) dX12_choosesOf_72 ?_
            refine AW.invV3 (pc' := 76) dX12_choosesOf_73 mlX12_351 mX12_partsOf ly_57 rfl (c_X12_partsOf (dep := dep - 1) (a := a) (b := b) (c := 2) (by omega) (by omega) (by first | omega | (simp only [puM_ran, bgM_ran]; omega))) ?_
            refine AW.iadd (pc' := 77) dX12_choosesOf_76 ?_
            refine AW.goto (tgt := 82) dX12_choosesOf_77 ?_
            refine AW.iret dX12_choosesOf_82 ?_ ?_
            all_goals first | omega | (rcases kk with rfl | rfl | rfl | rfl | rfl | rfl | rfl | rfl <;> first | omega | rfl | exact (bgM_app _ _ _).symm)
        · refine AW.iload (pc' := 57) dX12_choosesOf_55 rfl ?_
          refine AW.ineg (pc' := 58) dX12_choosesOf_57 ?_
          refine AW.goto (tgt := 82) dX12_choosesOf_58 ?_
          refine AW.iret dX12_choosesOf_82 ?_ ?_
          all_goals first | omega | (rcases kk with rfl | rfl | rfl | rfl | rfl | rfl | rfl | rfl <;> first | omega | rfl | exact (bgM_app _ _ _).symm)
    · refine AW.aload_n (pc' := 23) dX12_choosesOf_22 rfl ?_
      refine AW.bipush (pc' := 25) dX12_choosesOf_23 (by decide) ?_
      refine AW.invV1v (pc' := 28) dX12_choosesOf_25 mlX12_345 mX12_begins ly_57 rfl (c_X12_begins (dep := dep - 1) (a := 80) (by first | omega | (simp only [puM_ran, bgM_ran]; omega)) (by decide)) ?_
      refine AW.aload_n (pc' := 29) dX12_choosesOf_28 rfl ?_
      refine AW.bipush (pc' := 31) dX12_choosesOf_29 (by decide) ?_
      refine AW.invV1v (pc' := 34) dX12_choosesOf_31 mlX12_345 mX12_begins ly_57 rfl (c_X12_begins (dep := dep - 1) (a := 10) (by first | omega | (simp only [puM_ran, bgM_ran]; omega)) (by decide)) ?_
      refine AW.aload_n (pc' := 35) dX12_choosesOf_34 rfl ?_
      refine AW.iload_n (pc' := 36) dX12_choosesOf_35 rfl ?_
      refine AW.iload_n (pc' := 37) dX12_choosesOf_36 rfl ?_
      refine AW.iload_n (pc' := 38) dX12_choosesOf_37 rfl ?_
      refine AW.invV3 (pc' := 41) dX12_choosesOf_38 mlX12_348 mX12_givesOf ly_57 rfl (c_X12_givesOf (dep := dep - 1) (a := a) (b := b) (c := c) (by omega) (by omega) (by first | omega | (simp only [puM_ran, bgM_ran]; omega))) ?_
      refine AW.iconst (pc' := 42) dX12_choosesOf_41 ?_
      refine AW.imul (pc' := 43) dX12_choosesOf_42 ?_
      refine AW.istore4 (pc' := 45) dX12_choosesOf_43 (by decide) rfl ?_
      refine AW.iload_n (pc' := 46) dX12_choosesOf_45 rfl ?_
      refine AW.iconst (pc' := 47) dX12_choosesOf_46 ?_
      refine AW.icmp_eq (tgt := 55) (pc' := 50) dX12_choosesOf_47 (by first | assumption | omega | (constructor <;> omega) | (simp only [Int.toNat_natCast]; omega) | exact b2_in _) (by first | assumption | omega | (constructor <;> omega) | (simp only [Int.toNat_natCast]; omega) | exact b2_in _) (fun c47 => ?_) (fun c47 => ?_)
      · refine AW.iload (pc' := 57) dX12_choosesOf_55 rfl ?_
        refine AW.ineg (pc' := 58) dX12_choosesOf_57 ?_
        refine AW.goto (tgt := 82) dX12_choosesOf_58 ?_
        refine AW.iret dX12_choosesOf_82 ?_ ?_
        all_goals first | omega | (rcases kk with rfl | rfl | rfl | rfl | rfl | rfl | rfl | rfl <;> first | omega | rfl | exact (bgM_app _ _ _).symm)
      · refine AW.iload_n (pc' := 51) dX12_choosesOf_50 rfl ?_
        refine AW.iconst (pc' := 52) dX12_choosesOf_51 ?_
        refine AW.icmp_ne (tgt := 61) (pc' := 55) dX12_choosesOf_52 (by first | assumption | omega | (constructor <;> omega) | (simp only [Int.toNat_natCast]; omega) | exact b2_in _) (by first | assumption | omega | (constructor <;> omega) | (simp only [Int.toNat_natCast]; omega) | exact b2_in _) (fun c52 => ?_) (fun c52 => ?_)
        · refine AW.iload_n (pc' := 62) dX12_choosesOf_61 rfl ?_
          refine AW.bipush (pc' := 64) dX12_choosesOf_62 (by decide) ?_
          refine AW.icmp_ne (tgt := 80) (pc' := 67) dX12_choosesOf_64 (by first | assumption | omega | (constructor <;> omega) | (simp only [Int.toNat_natCast]; omega) | exact b2_in _) (by first | assumption | omega | (constructor <;> omega) | (simp only [Int.toNat_natCast]; omega) | exact b2_in _) (fun c64 => ?_) (fun c64 => ?_)
          · refine AW.iload (pc' := 82) dX12_choosesOf_80 rfl ?_
            refine AW.iret dX12_choosesOf_82 ?_ ?_
            all_goals first | omega | (rcases kk with rfl | rfl | rfl | rfl | rfl | rfl | rfl | rfl <;> first | omega | rfl | exact (bgM_app _ _ _).symm)
          · refine AW.iload (pc' := 69) dX12_choosesOf_67 rfl ?_
            refine AW.aload_n (pc' := 70) dX12_choosesOf_69 rfl ?_
            refine AW.iload_n (pc' := 71) dX12_choosesOf_70 rfl ?_
            refine AW.iload_n (pc' := 72) dX12_choosesOf_71 rfl ?_
            refine AW.iconst (pc' := 73) dX12_choosesOf_72 ?_
            refine AW.invV3 (pc' := 76) dX12_choosesOf_73 mlX12_351 mX12_partsOf ly_57 rfl (c_X12_partsOf (dep := dep - 1) (a := a) (b := b) (c := 2) (by omega) (by omega) (by first | omega | (simp only [puM_ran, bgM_ran]; omega))) ?_
            refine AW.iadd (pc' := 77) dX12_choosesOf_76 ?_
            refine AW.goto (tgt := 82) dX12_choosesOf_77 ?_
            refine AW.iret dX12_choosesOf_82 ?_ ?_
            all_goals first | omega | (rcases kk with rfl | rfl | rfl | rfl | rfl | rfl | rfl | rfl <;> first | omega | rfl | exact (bgM_app _ _ _).symm)
        · refine AW.iload (pc' := 57) dX12_choosesOf_55 rfl ?_
          refine AW.ineg (pc' := 58) dX12_choosesOf_57 ?_
          refine AW.goto (tgt := 82) dX12_choosesOf_58 ?_
          refine AW.iret dX12_choosesOf_82 ?_ ?_
          all_goals first | omega | (rcases kk with rfl | rfl | rfl | rfl | rfl | rfl | rfl | rfl <;> first | omega | rfl | exact (bgM_app _ _ _).symm)
  · refine AW.iload_n (pc' := 6) dX12_choosesOf_5 rfl ?_
    refine AW.iconst (pc' := 7) dX12_choosesOf_6 ?_
    refine AW.icmp_ne (tgt := 16) (pc' := 10) dX12_choosesOf_7 (by first | assumption | omega | (constructor <;> omega) | (simp only [Int.toNat_natCast]; omega) | exact b2_in _) (by first | assumption | omega | (constructor <;> omega) | (simp only [Int.toNat_natCast]; omega) | exact b2_in _) (fun c7 => ?_) (fun c7 => ?_)
    · refine AW.iload_n (pc' := 17) dX12_choosesOf_16 rfl ?_
      refine AW.bipush (pc' := 19) dX12_choosesOf_17 (by decide) ?_
      refine AW.icmp_ne (tgt := 28) (pc' := 22) dX12_choosesOf_19 (by first | assumption | omega | (constructor <;> omega) | (simp only [Int.toNat_natCast]; omega) | exact b2_in _) (by first | assumption | omega | (constructor <;> omega) | (simp only [Int.toNat_natCast]; omega) | exact b2_in _) (fun c19 => ?_) (fun c19 => ?_)
      · refine AW.aload_n (pc' := 29) dX12_choosesOf_28 rfl ?_
        refine AW.bipush (pc' := 31) dX12_choosesOf_29 (by decide) ?_
        refine AW.invV1v (pc' := 34) dX12_choosesOf_31 mlX12_345 mX12_begins ly_57 rfl (c_X12_begins (dep := dep - 1) (a := 10) (by first | omega | (simp only [puM_ran, bgM_ran]; omega)) (by decide)) ?_
        refine AW.aload_n (pc' := 35) dX12_choosesOf_34 rfl ?_
        refine AW.iload_n (pc' := 36) dX12_choosesOf_35 rfl ?_
        refine AW.iload_n (pc' := 37) dX12_choosesOf_36 rfl ?_
        refine AW.iload_n (pc' := 38) dX12_choosesOf_37 rfl ?_
        refine AW.invV3 (pc' := 41) dX12_choosesOf_38 mlX12_348 mX12_givesOf ly_57 rfl (c_X12_givesOf (dep := dep - 1) (a := a) (b := b) (c := c) (by omega) (by omega) (by first | omega | (simp only [puM_ran, bgM_ran]; omega))) ?_
        refine AW.iconst (pc' := 42) dX12_choosesOf_41 ?_
        refine AW.imul (pc' := 43) dX12_choosesOf_42 ?_
        refine AW.istore4 (pc' := 45) dX12_choosesOf_43 (by decide) rfl ?_
        refine AW.iload_n (pc' := 46) dX12_choosesOf_45 rfl ?_
        refine AW.iconst (pc' := 47) dX12_choosesOf_46 ?_
        refine AW.icmp_eq (tgt := 55) (pc' := 50) dX12_choosesOf_47 (by first | assumption | omega | (constructor <;> omega) | (simp only [Int.toNat_natCast]; omega) | exact b2_in _) (by first | assumption | omega | (constructor <;> omega) | (simp only [Int.toNat_natCast]; omega) | exact b2_in _) (fun c47 => ?_) (fun c47 => ?_)
        · refine AW.iload (pc' := 57) dX12_choosesOf_55 rfl ?_
          refine AW.ineg (pc' := 58) dX12_choosesOf_57 ?_
          refine AW.goto (tgt := 82) dX12_choosesOf_58 ?_
          refine AW.iret dX12_choosesOf_82 ?_ ?_
          all_goals first | omega | (rcases kk with rfl | rfl | rfl | rfl | rfl | rfl | rfl | rfl <;> first | omega | rfl | exact (bgM_app _ _ _).symm)
        · refine AW.iload_n (pc' := 51) dX12_choosesOf_50 rfl ?_
          refine AW.iconst (pc' := 52) dX12_choosesOf_51 ?_
          refine AW.icmp_ne (tgt := 61) (pc' := 55) dX12_choosesOf_52 (by first | assumption | omega | (constructor <;> omega) | (simp only [Int.toNat_natCast]; omega) | exact b2_in _) (by first | assumption | omega | (constructor <;> omega) | (simp only [Int.toNat_natCast]; omega) | exact b2_in _) (fun c52 => ?_) (fun c52 => ?_)
          · refine AW.iload_n (pc' := 62) dX12_choosesOf_61 rfl ?_
            refine AW.bipush (pc' := 64) dX12_choosesOf_62 (by decide) ?_
            refine AW.icmp_ne (tgt := 80) (pc' := 67) dX12_choosesOf_64 (by first | assumption | omega | (constructor <;> omega) | (simp only [Int.toNat_natCast]; omega) | exact b2_in _) (by first | assumption | omega | (constructor <;> omega) | (simp only [Int.toNat_natCast]; omega) | exact b2_in _) (fun c64 => ?_) (fun c64 => ?_)
            · refine AW.iload (pc' := 82) dX12_choosesOf_80 rfl ?_
              refine AW.iret dX12_choosesOf_82 ?_ ?_
              all_goals first | omega | (rcases kk with rfl | rfl | rfl | rfl | rfl | rfl | rfl | rfl <;> first | omega | rfl | exact (bgM_app _ _ _).symm)
            · refine AW.iload (pc' := 69) dX12_choosesOf_67 rfl ?_
              refine AW.aload_n (pc' := 70) dX12_choosesOf_69 rfl ?_
              refine AW.iload_n (pc' := 71) dX12_choosesOf_70 rfl ?_
              refine AW.iload_n (pc' := 72) dX12_choosesOf_71 rfl ?_
              refine AW.iconst (pc' := 73) dX12_choosesOf_72 ?_
              refine AW.invV3 (pc' := 76) dX12_choosesOf_73 mlX12_351 mX12_partsOf ly_57 rfl (c_X12_partsOf (dep := dep - 1) (a := a) (b := b) (c := 2) (by omega) (by omega) (by first | omega | (simp only [puM_ran, bgM_ran]; omega))) ?_
              refine AW.iadd (pc' := 77) dX12_choosesOf_76 ?_
              refine AW.goto (tgt := 82) dX12_choosesOf_77 ?_
              refine AW.iret dX12_choosesOf_82 ?_ ?_
              all_goals first | omega | (rcases kk with rfl | rfl | rfl | rfl | rfl | rfl | rfl | rfl <;> first | omega | rfl | exact (bgM_app _ _ _).symm)
          · refine AW.iload (pc' := 57) dX12_choosesOf_55 rfl ?_
            refine AW.ineg (pc' := 58) dX12_choosesOf_57 ?_
            refine AW.goto (tgt := 82) dX12_choosesOf_58 ?_
            refine AW.iret dX12_choosesOf_82 ?_ ?_
            all_goals first | omega | (rcases kk with rfl | rfl | rfl | rfl | rfl | rfl | rfl | rfl <;> first | omega | rfl | exact (bgM_app _ _ _).symm)
      · refine AW.aload_n (pc' := 23) dX12_choosesOf_22 rfl ?_
        refine AW.bipush (pc' := 25) dX12_choosesOf_23 (by decide) ?_
        refine AW.invV1v (pc' := 28) dX12_choosesOf_25 mlX12_345 mX12_begins ly_57 rfl (c_X12_begins (dep := dep - 1) (a := 80) (by first | omega | (simp only [puM_ran, bgM_ran]; omega)) (by decide)) ?_
        refine AW.aload_n (pc' := 29) dX12_choosesOf_28 rfl ?_
        refine AW.bipush (pc' := 31) dX12_choosesOf_29 (by decide) ?_
        refine AW.invV1v (pc' := 34) dX12_choosesOf_31 mlX12_345 mX12_begins ly_57 rfl (c_X12_begins (dep := dep - 1) (a := 10) (by first | omega | (simp only [puM_ran, bgM_ran]; omega)) (by decide)) ?_
        refine AW.aload_n (pc' := 35) dX12_choosesOf_34 rfl ?_
        refine AW.iload_n (pc' := 36) dX12_choosesOf_35 rfl ?_
        refine AW.iload_n (pc' := 37) dX12_choosesOf_36 rfl ?_
        refine AW.iload_n (pc' := 38) dX12_choosesOf_37 rfl ?_
        refine AW.invV3 (pc' := 41) dX12_choosesOf_38 mlX12_348 mX12_givesOf ly_57 rfl (c_X12_givesOf (dep := dep - 1) (a := a) (b := b) (c := c) (by omega) (by omega) (by first | omega | (simp only [puM_ran, bgM_ran]; omega))) ?_
        refine AW.iconst (pc' := 42) dX12_choosesOf_41 ?_
        refine AW.imul (pc' := 43) dX12_choosesOf_42 ?_
        refine AW.istore4 (pc' := 45) dX12_choosesOf_43 (by decide) rfl ?_
        refine AW.iload_n (pc' := 46) dX12_choosesOf_45 rfl ?_
        refine AW.iconst (pc' := 47) dX12_choosesOf_46 ?_
        refine AW.icmp_eq (tgt := 55) (pc' := 50) dX12_choosesOf_47 (by first | assumption | omega | (constructor <;> omega) | (simp only [Int.toNat_natCast]; omega) | exact b2_in _) (by first | assumption | omega | (constructor <;> omega) | (simp only [Int.toNat_natCast]; omega) | exact b2_in _) (fun c47 => ?_) (fun c47 => ?_)
        · refine AW.iload (pc' := 57) dX12_choosesOf_55 rfl ?_
          refine AW.ineg (pc' := 58) dX12_choosesOf_57 ?_
          refine AW.goto (tgt := 82) dX12_choosesOf_58 ?_
          refine AW.iret dX12_choosesOf_82 ?_ ?_
          all_goals first | omega | (rcases kk with rfl | rfl | rfl | rfl | rfl | rfl | rfl | rfl <;> first | omega | rfl | exact (bgM_app _ _ _).symm)
        · refine AW.iload_n (pc' := 51) dX12_choosesOf_50 rfl ?_
          refine AW.iconst (pc' := 52) dX12_choosesOf_51 ?_
          refine AW.icmp_ne (tgt := 61) (pc' := 55) dX12_choosesOf_52 (by first | assumption | omega | (constructor <;> omega) | (simp only [Int.toNat_natCast]; omega) | exact b2_in _) (by first | assumption | omega | (constructor <;> omega) | (simp only [Int.toNat_natCast]; omega) | exact b2_in _) (fun c52 => ?_) (fun c52 => ?_)
          · refine AW.iload_n (pc' := 62) dX12_choosesOf_61 rfl ?_
            refine AW.bipush (pc' := 64) dX12_choosesOf_62 (by decide) ?_
            refine AW.icmp_ne (tgt := 80) (pc' := 67) dX12_choosesOf_64 (by first | assumption | omega | (constructor <;> omega) | (simp only [Int.toNat_natCast]; omega) | exact b2_in _) (by first | assumption | omega | (constructor <;> omega) | (simp only [Int.toNat_natCast]; omega) | exact b2_in _) (fun c64 => ?_) (fun c64 => ?_)
            · refine AW.iload (pc' := 82) dX12_choosesOf_80 rfl ?_
              refine AW.iret dX12_choosesOf_82 ?_ ?_
              all_goals first | omega | (rcases kk with rfl | rfl | rfl | rfl | rfl | rfl | rfl | rfl <;> first | omega | rfl | exact (bgM_app _ _ _).symm)
            · refine AW.iload (pc' := 69) dX12_choosesOf_67 rfl ?_
              refine AW.aload_n (pc' := 70) dX12_choosesOf_69 rfl ?_
              refine AW.iload_n (pc' := 71) dX12_choosesOf_70 rfl ?_
              refine AW.iload_n (pc' := 72) dX12_choosesOf_71 rfl ?_
              refine AW.iconst (pc' := 73) dX12_choosesOf_72 ?_
              refine AW.invV3 (pc' := 76) dX12_choosesOf_73 mlX12_351 mX12_partsOf ly_57 rfl (c_X12_partsOf (dep := dep - 1) (a := a) (b := b) (c := 2) (by omega) (by omega) (by first | omega | (simp only [puM_ran, bgM_ran]; omega))) ?_
              refine AW.iadd (pc' := 77) dX12_choosesOf_76 ?_
              refine AW.goto (tgt := 82) dX12_choosesOf_77 ?_
              refine AW.iret dX12_choosesOf_82 ?_ ?_
              all_goals first | omega | (rcases kk with rfl | rfl | rfl | rfl | rfl | rfl | rfl | rfl <;> first | omega | rfl | exact (bgM_app _ _ _).symm)
          · refine AW.iload (pc' := 57) dX12_choosesOf_55 rfl ?_
            refine AW.ineg (pc' := 58) dX12_choosesOf_57 ?_
            refine AW.goto (tgt := 82) dX12_choosesOf_58 ?_
            refine AW.iret dX12_choosesOf_82 ?_ ?_
            all_goals first | omega | (rcases kk with rfl | rfl | rfl | rfl | rfl | rfl | rfl | rfl <;> first | omega | rfl | exact (bgM_app _ _ _).symm)
    · refine AW.aload_n (pc' := 11) dX12_choosesOf_10 rfl ?_
      refine AW.bipush (pc' := 13) dX12_choosesOf_11 (by decide) ?_
      refine AW.invV1v (pc' := 16) dX12_choosesOf_13 mlX12_345 mX12_begins ly_57 rfl (c_X12_begins (dep := dep - 1) (a := 30) (by first | omega | (simp only [puM_ran, bgM_ran]; omega)) (by decide)) ?_
      refine AW.iload_n (pc' := 17) dX12_choosesOf_16 rfl ?_
      refine AW.bipush (pc' := 19) dX12_choosesOf_17 (by decide) ?_
      refine AW.icmp_ne (tgt := 28) (pc' := 22) dX12_choosesOf_19 (by first | assumption | omega | (constructor <;> omega) | (simp only [Int.toNat_natCast]; omega) | exact b2_in _) (by first | assumption | omega | (constructor <;> omega) | (simp only [Int.toNat_natCast]; omega) | exact b2_in _) (fun c19 => ?_) (fun c19 => ?_)
      · refine AW.aload_n (pc' := 29) dX12_choosesOf_28 rfl ?_
        refine AW.bipush (pc' := 31) dX12_choosesOf_29 (by decide) ?_
        refine AW.invV1v (pc' := 34) dX12_choosesOf_31 mlX12_345 mX12_begins ly_57 rfl (c_X12_begins (dep := dep - 1) (a := 10) (by first | omega | (simp only [puM_ran, bgM_ran]; omega)) (by decide)) ?_
        refine AW.aload_n (pc' := 35) dX12_choosesOf_34 rfl ?_
        refine AW.iload_n (pc' := 36) dX12_choosesOf_35 rfl ?_
        refine AW.iload_n (pc' := 37) dX12_choosesOf_36 rfl ?_
        refine AW.iload_n (pc' := 38) dX12_choosesOf_37 rfl ?_
        refine AW.invV3 (pc' := 41) dX12_choosesOf_38 mlX12_348 mX12_givesOf ly_57 rfl (c_X12_givesOf (dep := dep - 1) (a := a) (b := b) (c := c) (by omega) (by omega) (by first | omega | (simp only [puM_ran, bgM_ran]; omega))) ?_
        refine AW.iconst (pc' := 42) dX12_choosesOf_41 ?_
        refine AW.imul (pc' := 43) dX12_choosesOf_42 ?_
        refine AW.istore4 (pc' := 45) dX12_choosesOf_43 (by decide) rfl ?_
        refine AW.iload_n (pc' := 46) dX12_choosesOf_45 rfl ?_
        refine AW.iconst (pc' := 47) dX12_choosesOf_46 ?_
        refine AW.icmp_eq (tgt := 55) (pc' := 50) dX12_choosesOf_47 (by first | assumption | omega | (constructor <;> omega) | (simp only [Int.toNat_natCast]; omega) | exact b2_in _) (by first | assumption | omega | (constructor <;> omega) | (simp only [Int.toNat_natCast]; omega) | exact b2_in _) (fun c47 => ?_) (fun c47 => ?_)
        · refine AW.iload (pc' := 57) dX12_choosesOf_55 rfl ?_
          refine AW.ineg (pc' := 58) dX12_choosesOf_57 ?_
          refine AW.goto (tgt := 82) dX12_choosesOf_58 ?_
          refine AW.iret dX12_choosesOf_82 ?_ ?_
          all_goals first | omega | (rcases kk with rfl | rfl | rfl | rfl | rfl | rfl | rfl | rfl <;> first | omega | rfl | exact (bgM_app _ _ _).symm)
        · refine AW.iload_n (pc' := 51) dX12_choosesOf_50 rfl ?_
          refine AW.iconst (pc' := 52) dX12_choosesOf_51 ?_
          refine AW.icmp_ne (tgt := 61) (pc' := 55) dX12_choosesOf_52 (by first | assumption | omega | (constructor <;> omega) | (simp only [Int.toNat_natCast]; omega) | exact b2_in _) (by first | assumption | omega | (constructor <;> omega) | (simp only [Int.toNat_natCast]; omega) | exact b2_in _) (fun c52 => ?_) (fun c52 => ?_)
          · refine AW.iload_n (pc' := 62) dX12_choosesOf_61 rfl ?_
            refine AW.bipush (pc' := 64) dX12_choosesOf_62 (by decide) ?_
            refine AW.icmp_ne (tgt := 80) (pc' := 67) dX12_choosesOf_64 (by first | assumption | omega | (constructor <;> omega) | (simp only [Int.toNat_natCast]; omega) | exact b2_in _) (by first | assumption | omega | (constructor <;> omega) | (simp only [Int.toNat_natCast]; omega) | exact b2_in _) (fun c64 => ?_) (fun c64 => ?_)
            · refine AW.iload (pc' := 82) dX12_choosesOf_80 rfl ?_
              refine AW.iret dX12_choosesOf_82 ?_ ?_
              all_goals first | omega | (rcases kk with rfl | rfl | rfl | rfl | rfl | rfl | rfl | rfl <;> first | omega | rfl | exact (bgM_app _ _ _).symm)
            · refine AW.iload (pc' := 69) dX12_choosesOf_67 rfl ?_
              refine AW.aload_n (pc' := 70) dX12_choosesOf_69 rfl ?_
              refine AW.iload_n (pc' := 71) dX12_choosesOf_70 rfl ?_
              refine AW.iload_n (pc' := 72) dX12_choosesOf_71 rfl ?_
              refine AW.iconst (pc' := 73) dX12_choosesOf_72 ?_
              refine AW.invV3 (pc' := 76) dX12_choosesOf_73 mlX12_351 mX12_partsOf ly_57 rfl (c_X12_partsOf (dep := dep - 1) (a := a) (b := b) (c := 2) (by omega) (by omega) (by first | omega | (simp only [puM_ran, bgM_ran]; omega))) ?_
              refine AW.iadd (pc' := 77) dX12_choosesOf_76 ?_
              refine AW.goto (tgt := 82) dX12_choosesOf_77 ?_
              refine AW.iret dX12_choosesOf_82 ?_ ?_
              all_goals first | omega | (rcases kk with rfl | rfl | rfl | rfl | rfl | rfl | rfl | rfl <;> first | omega | rfl | exact (bgM_app _ _ _).symm)
          · refine AW.iload (pc' := 57) dX12_choosesOf_55 rfl ?_
            refine AW.ineg (pc' := 58) dX12_choosesOf_57 ?_
            refine AW.goto (tgt := 82) dX12_choosesOf_58 ?_
            refine AW.iret dX12_choosesOf_82 ?_ ?_
            all_goals first | omega | (rcases kk with rfl | rfl | rfl | rfl | rfl | rfl | rfl | rfl <;> first | omega | rfl | exact (bgM_app _ _ _).symm)
      · refine AW.aload_n (pc' := 23) dX12_choosesOf_22 rfl ?_
        refine AW.bipush (pc' := 25) dX12_choosesOf_23 (by decide) ?_
        refine AW.invV1v (pc' := 28) dX12_choosesOf_25 mlX12_345 mX12_begins ly_57 rfl (c_X12_begins (dep := dep - 1) (a := 80) (by first | omega | (simp only [puM_ran, bgM_ran]; omega)) (by decide)) ?_
        refine AW.aload_n (pc' := 29) dX12_choosesOf_28 rfl ?_
        refine AW.bipush (pc' := 31) dX12_choosesOf_29 (by decide) ?_
        refine AW.invV1v (pc' := 34) dX12_choosesOf_31 mlX12_345 mX12_begins ly_57 rfl (c_X12_begins (dep := dep - 1) (a := 10) (by first | omega | (simp only [puM_ran, bgM_ran]; omega)) (by decide)) ?_
        refine AW.aload_n (pc' := 35) dX12_choosesOf_34 rfl ?_
        refine AW.iload_n (pc' := 36) dX12_choosesOf_35 rfl ?_
        refine AW.iload_n (pc' := 37) dX12_choosesOf_36 rfl ?_
        refine AW.iload_n (pc' := 38) dX12_choosesOf_37 rfl ?_
        refine AW.invV3 (pc' := 41) dX12_choosesOf_38 mlX12_348 mX12_givesOf ly_57 rfl (c_X12_givesOf (dep := dep - 1) (a := a) (b := b) (c := c) (by omega) (by omega) (by first | omega | (simp only [puM_ran, bgM_ran]; omega))) ?_
        refine AW.iconst (pc' := 42) dX12_choosesOf_41 ?_
        refine AW.imul (pc' := 43) dX12_choosesOf_42 ?_
        refine AW.istore4 (pc' := 45) dX12_choosesOf_43 (by decide) rfl ?_
        refine AW.iload_n (pc' := 46) dX12_choosesOf_45 rfl ?_
        refine AW.iconst (pc' := 47) dX12_choosesOf_46 ?_
        refine AW.icmp_eq (tgt := 55) (pc' := 50) dX12_choosesOf_47 (by first | assumption | omega | (constructor <;> omega) | (simp only [Int.toNat_natCast]; omega) | exact b2_in _) (by first | assumption | omega | (constructor <;> omega) | (simp only [Int.toNat_natCast]; omega) | exact b2_in _) (fun c47 => ?_) (fun c47 => ?_)
        · refine AW.iload (pc' := 57) dX12_choosesOf_55 rfl ?_
          refine AW.ineg (pc' := 58) dX12_choosesOf_57 ?_
          refine AW.goto (tgt := 82) dX12_choosesOf_58 ?_
          refine AW.iret dX12_choosesOf_82 ?_ ?_
          all_goals first | omega | (rcases kk with rfl | rfl | rfl | rfl | rfl | rfl | rfl | rfl <;> first | omega | rfl | exact (bgM_app _ _ _).symm)
        · refine AW.iload_n (pc' := 51) dX12_choosesOf_50 rfl ?_
          refine AW.iconst (pc' := 52) dX12_choosesOf_51 ?_
          refine AW.icmp_ne (tgt := 61) (pc' := 55) dX12_choosesOf_52 (by first | assumption | omega | (constructor <;> omega) | (simp only [Int.toNat_natCast]; omega) | exact b2_in _) (by first | assumption | omega | (constructor <;> omega) | (simp only [Int.toNat_natCast]; omega) | exact b2_in _) (fun c52 => ?_) (fun c52 => ?_)
          · refine AW.iload_n (pc' := 62) dX12_choosesOf_61 rfl ?_
            refine AW.bipush (pc' := 64) dX12_choosesOf_62 (by decide) ?_
            refine AW.icmp_ne (tgt := 80) (pc' := 67) dX12_choosesOf_64 (by first | assumption | omega | (constructor <;> omega) | (simp only [Int.toNat_natCast]; omega) | exact b2_in _) (by first | assumption | omega | (constructor <;> omega) | (simp only [Int.toNat_natCast]; omega) | exact b2_in _) (fun c64 => ?_) (fun c64 => ?_)
            · refine AW.iload (pc' := 82) dX12_choosesOf_80 rfl ?_
              refine AW.iret dX12_choosesOf_82 ?_ ?_
              all_goals first | omega | (rcases kk with rfl | rfl | rfl | rfl | rfl | rfl | rfl | rfl <;> first | omega | rfl | exact (bgM_app _ _ _).symm)
            · refine AW.iload (pc' := 69) dX12_choosesOf_67 rfl ?_
              refine AW.aload_n (pc' := 70) dX12_choosesOf_69 rfl ?_
              refine AW.iload_n (pc' := 71) dX12_choosesOf_70 rfl ?_
              refine AW.iload_n (pc' := 72) dX12_choosesOf_71 rfl ?_
              refine AW.iconst (pc' := 73) dX12_choosesOf_72 ?_
              refine AW.invV3 (pc' := 76) dX12_choosesOf_73 mlX12_351 mX12_partsOf ly_57 rfl (c_X12_partsOf (dep := dep - 1) (a := a) (b := b) (c := 2) (by omega) (by omega) (by first | omega | (simp only [puM_ran, bgM_ran]; omega))) ?_
              refine AW.iadd (pc' := 77) dX12_choosesOf_76 ?_
              refine AW.goto (tgt := 82) dX12_choosesOf_77 ?_
              refine AW.iret dX12_choosesOf_82 ?_ ?_
              all_goals first | omega | (rcases kk with rfl | rfl | rfl | rfl | rfl | rfl | rfl | rfl <;> first | omega | rfl | exact (bgM_app _ _ _).symm)
          · refine AW.iload (pc' := 57) dX12_choosesOf_55 rfl ?_
            refine AW.ineg (pc' := 58) dX12_choosesOf_57 ?_
            refine AW.goto (tgt := 82) dX12_choosesOf_58 ?_
            refine AW.iret dX12_choosesOf_82 ?_ ?_
            all_goals first | omega | (rcases kk with rfl | rfl | rfl | rfl | rfl | rfl | rfl | rfl <;> first | omega | rfl | exact (bgM_app _ _ _).symm)
set_option maxRecDepth 100000 in
set_option maxHeartbeats 4000000 in
theorem c_X12_tellsOf {K : KT} {dep : Nat} {h : Hp} {a b c : Int} (hd : 4 ≤ dep) (qk : 0 ≤ a ∧ a ≤ 7) (qr : 0 ≤ h 57 53 ∧ h 57 53 ≤ 1200) : AM K yX12_tellsOf cX12_tellsOf 5 (some .int) dep [vR 57, vI a, vI b, vI c] h (some (vI (teF a b c))) (bgM (teL a) h) := by
  refine AM.of (own := RX12) (ls := [some (vR 57), some (vI a), some (vI b), some (vI c), none]) rfl (by decide +kernel) (by exact Nat.le_of_ble_eq_true rfl) rfl (fun hO => ?_)
  have kk : a = 0 ∨ a = 1 ∨ a = 2 ∨ a = 3 ∨ a = 4 ∨ a = 5 ∨ a = 6 ∨ a = 7 := by omega
  have ll := gvL_len a
  have l2 := paL_len a
  have l3 := chL_len a
  refine AW.iload_n (pc' := 1) dX12_tellsOf_0 rfl ?_
  refine AW.iconst (pc' := 2) dX12_tellsOf_1 ?_
  refine AW.icmp_ne (tgt := 11) (pc' := 5) dX12_tellsOf_2 (by first | assumption | omega | (constructor <;> omega) | (simp only [Int.toNat_natCast]; omega) | exact b2_in _) (by first | assumption | omega | (constructor <;> omega) | (simp only [Int.toNat_natCast]; omega) | exact b2_in _) (fun c2 => ?_) (fun c2 => ?_)
  · refine AW.iload_n (pc' := 12) dX12_tellsOf_11 rfl ?_
    refine AW.bipush (pc' := 14) dX12_tellsOf_12 (by decide) ?_
    refine AW.icmp_ne (tgt := 23) (pc' := 17) dX12_tellsOf_14 (by first | assumption | omega | (constructor <;> omega) | (simp only [Int.toNat_natCast]; omega) | exact b2_in _) (by first | assumption | omega | (constructor <;> omega) | (simp only [Int.toNat_natCast]; omega) | exact b2_in _) (fun c14 => ?_) (fun c14 => ?_)
    · refine AW.aload_n (pc' := 24) dX12_tellsOf_23 rfl ?_
      refine AW.iconst (pc' := 25) dX12_tellsOf_24 ?_
      refine AW.invV1v (pc' := 28) dX12_tellsOf_25 mlX12_345 mX12_begins ly_57 rfl (c_X12_begins (dep := dep - 1) (a := 2) (by first | omega | (simp only [puM_ran, bgM_ran]; omega)) (by decide)) ?_
      refine AW.aload_n (pc' := 29) dX12_tellsOf_28 rfl ?_
      refine AW.iload_n (pc' := 30) dX12_tellsOf_29 rfl ?_
      refine AW.iload_n (pc' := 31) dX12_tellsOf_30 rfl ?_
      refine AW.iload_n (pc' := 32) dX12_tellsOf_31 rfl ?_
      refine AW.invV3 (pc' := 35) dX12_tellsOf_32 mlX12_354 mX12_choosesOf ly_57 rfl (c_X12_choosesOf (dep := dep - 1) (a := a) (b := b) (c := c) (by omega) (by omega) (by first | omega | (simp only [puM_ran, bgM_ran]; omega))) ?_
      refine AW.istore4 (pc' := 37) dX12_tellsOf_35 (by decide) rfl ?_
      refine AW.iload (pc' := 39) dX12_tellsOf_37 rfl ?_
      refine AW.aload_n (pc' := 40) dX12_tellsOf_39 rfl ?_
      refine AW.iload_n (pc' := 41) dX12_tellsOf_40 rfl ?_
      refine AW.iload_n (pc' := 42) dX12_tellsOf_41 rfl ?_
      refine AW.iconst (pc' := 43) dX12_tellsOf_42 ?_
      refine AW.invV3 (pc' := 46) dX12_tellsOf_43 mlX12_351 mX12_partsOf ly_57 rfl (c_X12_partsOf (dep := dep - 1) (a := a) (b := b) (c := 1) (by omega) (by omega) (by first | omega | (simp only [puM_ran, bgM_ran]; omega))) ?_
      refine AW.isub (pc' := 47) dX12_tellsOf_46 ?_
      refine AW.istore4 (pc' := 49) dX12_tellsOf_47 (by decide) rfl ?_
      refine AW.iload_n (pc' := 50) dX12_tellsOf_49 rfl ?_
      refine AW.iconst (pc' := 51) dX12_tellsOf_50 ?_
      refine AW.icmp_ne (tgt := 61) (pc' := 54) dX12_tellsOf_51 (by first | assumption | omega | (constructor <;> omega) | (simp only [Int.toNat_natCast]; omega) | exact b2_in _) (by first | assumption | omega | (constructor <;> omega) | (simp only [Int.toNat_natCast]; omega) | exact b2_in _) (fun c51 => ?_) (fun c51 => ?_)
      · refine AW.iload_n (pc' := 62) dX12_tellsOf_61 rfl ?_
        refine AW.bipush (pc' := 64) dX12_tellsOf_62 (by decide) ?_
        refine AW.icmp_ne (tgt := 74) (pc' := 67) dX12_tellsOf_64 (by first | assumption | omega | (constructor <;> omega) | (simp only [Int.toNat_natCast]; omega) | exact b2_in _) (by first | assumption | omega | (constructor <;> omega) | (simp only [Int.toNat_natCast]; omega) | exact b2_in _) (fun c64 => ?_) (fun c64 => ?_)
        · refine AW.iload (pc' := 76) dX12_tellsOf_74 rfl ?_
          refine AW.iret dX12_tellsOf_76 ?_ ?_
          all_goals first | omega | (rcases kk with rfl | rfl | rfl | rfl | rfl | rfl | rfl | rfl <;> first | omega | rfl | exact (bgM_app _ _ _).symm)
        · refine AW.iload (pc' := 69) dX12_tellsOf_67 rfl ?_
          refine AW.iconst (pc' := 70) dX12_tellsOf_69 ?_
          refine AW.isub (pc' := 71) dX12_tellsOf_70 ?_
          refine AW.goto (tgt := 76) dX12_tellsOf_71 ?_
          refine AW.iret dX12_tellsOf_76 ?_ ?_
          all_goals first | omega | (rcases kk with rfl | rfl | rfl | rfl | rfl | rfl | rfl | rfl <;> first | omega | rfl | exact (bgM_app _ _ _).symm)
      · refine AW.iload (pc' := 56) dX12_tellsOf_54 rfl ?_
        refine AW.iconst (pc' := 57) dX12_tellsOf_56 ?_
        refine AW.ixor (pc' := 58) dX12_tellsOf_57 ?_
        refine AW.top (b := xorI (chF a b c - paF a b 1) 5) rfl ?_
        refine AW.goto (tgt := 76) dX12_tellsOf_58 ?_
        refine AW.iret dX12_tellsOf_76 ?_ ?_
        all_goals first | omega | (rcases kk with rfl | rfl | rfl | rfl | rfl | rfl | rfl | rfl <;> first | omega | rfl | exact (bgM_app _ _ _).symm)
    · refine AW.aload_n (pc' := 18) dX12_tellsOf_17 rfl ?_
      refine AW.bipush (pc' := 20) dX12_tellsOf_18 (by decide) ?_
      refine AW.invV1v (pc' := 23) dX12_tellsOf_20 mlX12_345 mX12_begins ly_57 rfl (c_X12_begins (dep := dep - 1) (a := 81) (by first | omega | (simp only [puM_ran, bgM_ran]; omega)) (by decide)) ?_
      refine AW.aload_n (pc' := 24) dX12_tellsOf_23 rfl ?_
      refine AW.iconst (pc' := 25) dX12_tellsOf_24 ?_
      refine AW.invV1v (pc' := 28) dX12_tellsOf_25 mlX12_345 mX12_begins ly_57 rfl (c_X12_begins (dep := dep - 1) (a := 2) (by first | omega | (simp only [puM_ran, bgM_ran]; omega)) (by decide)) ?_
      refine AW.aload_n (pc' := 29) dX12_tellsOf_28 rfl ?_
      refine AW.iload_n (pc' := 30) dX12_tellsOf_29 rfl ?_
      refine AW.iload_n (pc' := 31) dX12_tellsOf_30 rfl ?_
      refine AW.iload_n (pc' := 32) dX12_tellsOf_31 rfl ?_
      refine AW.invV3 (pc' := 35) dX12_tellsOf_32 mlX12_354 mX12_choosesOf ly_57 rfl (c_X12_choosesOf (dep := dep - 1) (a := a) (b := b) (c := c) (by omega) (by omega) (by first | omega | (simp only [puM_ran, bgM_ran]; omega))) ?_
      refine AW.istore4 (pc' := 37) dX12_tellsOf_35 (by decide) rfl ?_
      refine AW.iload (pc' := 39) dX12_tellsOf_37 rfl ?_
      refine AW.aload_n (pc' := 40) dX12_tellsOf_39 rfl ?_
      refine AW.iload_n (pc' := 41) dX12_tellsOf_40 rfl ?_
      refine AW.iload_n (pc' := 42) dX12_tellsOf_41 rfl ?_
      refine AW.iconst (pc' := 43) dX12_tellsOf_42 ?_
      refine AW.invV3 (pc' := 46) dX12_tellsOf_43 mlX12_351 mX12_partsOf ly_57 rfl (c_X12_partsOf (dep := dep - 1) (a := a) (b := b) (c := 1) (by omega) (by omega) (by first | omega | (simp only [puM_ran, bgM_ran]; omega))) ?_
      refine AW.isub (pc' := 47) dX12_tellsOf_46 ?_
      refine AW.istore4 (pc' := 49) dX12_tellsOf_47 (by decide) rfl ?_
      refine AW.iload_n (pc' := 50) dX12_tellsOf_49 rfl ?_
      refine AW.iconst (pc' := 51) dX12_tellsOf_50 ?_
      refine AW.icmp_ne (tgt := 61) (pc' := 54) dX12_tellsOf_51 (by first | assumption | omega | (constructor <;> omega) | (simp only [Int.toNat_natCast]; omega) | exact b2_in _) (by first | assumption | omega | (constructor <;> omega) | (simp only [Int.toNat_natCast]; omega) | exact b2_in _) (fun c51 => ?_) (fun c51 => ?_)
      · refine AW.iload_n (pc' := 62) dX12_tellsOf_61 rfl ?_
        refine AW.bipush (pc' := 64) dX12_tellsOf_62 (by decide) ?_
        refine AW.icmp_ne (tgt := 74) (pc' := 67) dX12_tellsOf_64 (by first | assumption | omega | (constructor <;> omega) | (simp only [Int.toNat_natCast]; omega) | exact b2_in _) (by first | assumption | omega | (constructor <;> omega) | (simp only [Int.toNat_natCast]; omega) | exact b2_in _) (fun c64 => ?_) (fun c64 => ?_)
        · refine AW.iload (pc' := 76) dX12_tellsOf_74 rfl ?_
          refine AW.iret dX12_tellsOf_76 ?_ ?_
          all_goals first | omega | (rcases kk with rfl | rfl | rfl | rfl | rfl | rfl | rfl | rfl <;> first | omega | rfl | exact (bgM_app _ _ _).symm)
        · refine AW.iload (pc' := 69) dX12_tellsOf_67 rfl ?_
          refine AW.iconst (pc' := 70) dX12_tellsOf_69 ?_
          refine AW.isub (pc' := 71) dX12_tellsOf_70 ?_
          refine AW.goto (tgt := 76) dX12_tellsOf_71 ?_
          refine AW.iret dX12_tellsOf_76 ?_ ?_
          all_goals first | omega | (rcases kk with rfl | rfl | rfl | rfl | rfl | rfl | rfl | rfl <;> first | omega | rfl | exact (bgM_app _ _ _).symm)
      · refine AW.iload (pc' := 56) dX12_tellsOf_54 rfl ?_
        refine AW.iconst (pc' := 57) dX12_tellsOf_56 ?_
        refine AW.ixor (pc' := 58) dX12_tellsOf_57 ?_
        refine AW.top (b := xorI (chF a b c - paF a b 1) 5) rfl ?_
        refine AW.goto (tgt := 76) dX12_tellsOf_58 ?_
        refine AW.iret dX12_tellsOf_76 ?_ ?_
        all_goals first | omega | (rcases kk with rfl | rfl | rfl | rfl | rfl | rfl | rfl | rfl <;> first | omega | rfl | exact (bgM_app _ _ _).symm)
  · refine AW.aload_n (pc' := 6) dX12_tellsOf_5 rfl ?_
    refine AW.bipush (pc' := 8) dX12_tellsOf_6 (by decide) ?_
    refine AW.invV1v (pc' := 11) dX12_tellsOf_8 mlX12_345 mX12_begins ly_57 rfl (c_X12_begins (dep := dep - 1) (a := 60) (by first | omega | (simp only [puM_ran, bgM_ran]; omega)) (by decide)) ?_
    refine AW.iload_n (pc' := 12) dX12_tellsOf_11 rfl ?_
    refine AW.bipush (pc' := 14) dX12_tellsOf_12 (by decide) ?_
    refine AW.icmp_ne (tgt := 23) (pc' := 17) dX12_tellsOf_14 (by first | assumption | omega | (constructor <;> omega) | (simp only [Int.toNat_natCast]; omega) | exact b2_in _) (by first | assumption | omega | (constructor <;> omega) | (simp only [Int.toNat_natCast]; omega) | exact b2_in _) (fun c14 => ?_) (fun c14 => ?_)
    · refine AW.aload_n (pc' := 24) dX12_tellsOf_23 rfl ?_
      refine AW.iconst (pc' := 25) dX12_tellsOf_24 ?_
      refine AW.invV1v (pc' := 28) dX12_tellsOf_25 mlX12_345 mX12_begins ly_57 rfl (c_X12_begins (dep := dep - 1) (a := 2) (by first | omega | (simp only [puM_ran, bgM_ran]; omega)) (by decide)) ?_
      refine AW.aload_n (pc' := 29) dX12_tellsOf_28 rfl ?_
      refine AW.iload_n (pc' := 30) dX12_tellsOf_29 rfl ?_
      refine AW.iload_n (pc' := 31) dX12_tellsOf_30 rfl ?_
      refine AW.iload_n (pc' := 32) dX12_tellsOf_31 rfl ?_
      refine AW.invV3 (pc' := 35) dX12_tellsOf_32 mlX12_354 mX12_choosesOf ly_57 rfl (c_X12_choosesOf (dep := dep - 1) (a := a) (b := b) (c := c) (by omega) (by omega) (by first | omega | (simp only [puM_ran, bgM_ran]; omega))) ?_
      refine AW.istore4 (pc' := 37) dX12_tellsOf_35 (by decide) rfl ?_
      refine AW.iload (pc' := 39) dX12_tellsOf_37 rfl ?_
      refine AW.aload_n (pc' := 40) dX12_tellsOf_39 rfl ?_
      refine AW.iload_n (pc' := 41) dX12_tellsOf_40 rfl ?_
      refine AW.iload_n (pc' := 42) dX12_tellsOf_41 rfl ?_
      refine AW.iconst (pc' := 43) dX12_tellsOf_42 ?_
      refine AW.invV3 (pc' := 46) dX12_tellsOf_43 mlX12_351 mX12_partsOf ly_57 rfl (c_X12_partsOf (dep := dep - 1) (a := a) (b := b) (c := 1) (by omega) (by omega) (by first | omega | (simp only [puM_ran, bgM_ran]; omega))) ?_
      refine AW.isub (pc' := 47) dX12_tellsOf_46 ?_
      refine AW.istore4 (pc' := 49) dX12_tellsOf_47 (by decide) rfl ?_
      refine AW.iload_n (pc' := 50) dX12_tellsOf_49 rfl ?_
      refine AW.iconst (pc' := 51) dX12_tellsOf_50 ?_
      refine AW.icmp_ne (tgt := 61) (pc' := 54) dX12_tellsOf_51 (by first | assumption | omega | (constructor <;> omega) | (simp only [Int.toNat_natCast]; omega) | exact b2_in _) (by first | assumption | omega | (constructor <;> omega) | (simp only [Int.toNat_natCast]; omega) | exact b2_in _) (fun c51 => ?_) (fun c51 => ?_)
      · refine AW.iload_n (pc' := 62) dX12_tellsOf_61 rfl ?_
        refine AW.bipush (pc' := 64) dX12_tellsOf_62 (by decide) ?_
        refine AW.icmp_ne (tgt := 74) (pc' := 67) dX12_tellsOf_64 (by first | assumption | omega | (constructor <;> omega) | (simp only [Int.toNat_natCast]; omega) | exact b2_in _) (by first | assumption | omega | (constructor <;> omega) | (simp only [Int.toNat_natCast]; omega) | exact b2_in _) (fun c64 => ?_) (fun c64 => ?_)
        · refine AW.iload (pc' := 76) dX12_tellsOf_74 rfl ?_
          refine AW.iret dX12_tellsOf_76 ?_ ?_
          all_goals first | omega | (rcases kk with rfl | rfl | rfl | rfl | rfl | rfl | rfl | rfl <;> first | omega | rfl | exact (bgM_app _ _ _).symm)
        · refine AW.iload (pc' := 69) dX12_tellsOf_67 rfl ?_
          refine AW.iconst (pc' := 70) dX12_tellsOf_69 ?_
          refine AW.isub (pc' := 71) dX12_tellsOf_70 ?_
          refine AW.goto (tgt := 76) dX12_tellsOf_71 ?_
          refine AW.iret dX12_tellsOf_76 ?_ ?_
          all_goals first | omega | (rcases kk with rfl | rfl | rfl | rfl | rfl | rfl | rfl | rfl <;> first | omega | rfl | exact (bgM_app _ _ _).symm)
      · refine AW.iload (pc' := 56) dX12_tellsOf_54 rfl ?_
        refine AW.iconst (pc' := 57) dX12_tellsOf_56 ?_
        refine AW.ixor (pc' := 58) dX12_tellsOf_57 ?_
        refine AW.top (b := xorI (chF a b c - paF a b 1) 5) rfl ?_
        refine AW.goto (tgt := 76) dX12_tellsOf_58 ?_
        refine AW.iret dX12_tellsOf_76 ?_ ?_
        all_goals first | omega | (rcases kk with rfl | rfl | rfl | rfl | rfl | rfl | rfl | rfl <;> first | omega | rfl | exact (bgM_app _ _ _).symm)
    · refine AW.aload_n (pc' := 18) dX12_tellsOf_17 rfl ?_
      refine AW.bipush (pc' := 20) dX12_tellsOf_18 (by decide) ?_
      refine AW.invV1v (pc' := 23) dX12_tellsOf_20 mlX12_345 mX12_begins ly_57 rfl (c_X12_begins (dep := dep - 1) (a := 81) (by first | omega | (simp only [puM_ran, bgM_ran]; omega)) (by decide)) ?_
      refine AW.aload_n (pc' := 24) dX12_tellsOf_23 rfl ?_
      refine AW.iconst (pc' := 25) dX12_tellsOf_24 ?_
      refine AW.invV1v (pc' := 28) dX12_tellsOf_25 mlX12_345 mX12_begins ly_57 rfl (c_X12_begins (dep := dep - 1) (a := 2) (by first | omega | (simp only [puM_ran, bgM_ran]; omega)) (by decide)) ?_
      refine AW.aload_n (pc' := 29) dX12_tellsOf_28 rfl ?_
      refine AW.iload_n (pc' := 30) dX12_tellsOf_29 rfl ?_
      refine AW.iload_n (pc' := 31) dX12_tellsOf_30 rfl ?_
      refine AW.iload_n (pc' := 32) dX12_tellsOf_31 rfl ?_
      refine AW.invV3 (pc' := 35) dX12_tellsOf_32 mlX12_354 mX12_choosesOf ly_57 rfl (c_X12_choosesOf (dep := dep - 1) (a := a) (b := b) (c := c) (by omega) (by omega) (by first | omega | (simp only [puM_ran, bgM_ran]; omega))) ?_
      refine AW.istore4 (pc' := 37) dX12_tellsOf_35 (by decide) rfl ?_
      refine AW.iload (pc' := 39) dX12_tellsOf_37 rfl ?_
      refine AW.aload_n (pc' := 40) dX12_tellsOf_39 rfl ?_
      refine AW.iload_n (pc' := 41) dX12_tellsOf_40 rfl ?_
      refine AW.iload_n (pc' := 42) dX12_tellsOf_41 rfl ?_
      refine AW.iconst (pc' := 43) dX12_tellsOf_42 ?_
      refine AW.invV3 (pc' := 46) dX12_tellsOf_43 mlX12_351 mX12_partsOf ly_57 rfl (c_X12_partsOf (dep := dep - 1) (a := a) (b := b) (c := 1) (by omega) (by omega) (by first | omega | (simp only [puM_ran, bgM_ran]; omega))) ?_
      refine AW.isub (pc' := 47) dX12_tellsOf_46 ?_
      refine AW.istore4 (pc' := 49) dX12_tellsOf_47 (by decide) rfl ?_
      refine AW.iload_n (pc' := 50) dX12_tellsOf_49 rfl ?_
      refine AW.iconst (pc' := 51) dX12_tellsOf_50 ?_
      refine AW.icmp_ne (tgt := 61) (pc' := 54) dX12_tellsOf_51 (by first | assumption | omega | (constructor <;> omega) | (simp only [Int.toNat_natCast]; omega) | exact b2_in _) (by first | assumption | omega | (constructor <;> omega) | (simp only [Int.toNat_natCast]; omega) | exact b2_in _) (fun c51 => ?_) (fun c51 => ?_)
      · refine AW.iload_n (pc' := 62) dX12_tellsOf_61 rfl ?_
        refine AW.bipush (pc' := 64) dX12_tellsOf_62 (by decide) ?_
        refine AW.icmp_ne (tgt := 74) (pc' := 67) dX12_tellsOf_64 (by first | assumption | omega | (constructor <;> omega) | (simp only [Int.toNat_natCast]; omega) | exact b2_in _) (by first | assumption | omega | (constructor <;> omega) | (simp only [Int.toNat_natCast]; omega) | exact b2_in _) (fun c64 => ?_) (fun c64 => ?_)
        · refine AW.iload (pc' := 76) dX12_tellsOf_74 rfl ?_
          refine AW.iret dX12_tellsOf_76 ?_ ?_
          all_goals first | omega | (rcases kk with rfl | rfl | rfl | rfl | rfl | rfl | rfl | rfl <;> first | omega | rfl | exact (bgM_app _ _ _).symm)
        · refine AW.iload (pc' := 69) dX12_tellsOf_67 rfl ?_
          refine AW.iconst (pc' := 70) dX12_tellsOf_69 ?_
          refine AW.isub (pc' := 71) dX12_tellsOf_70 ?_
          refine AW.goto (tgt := 76) dX12_tellsOf_71 ?_
          refine AW.iret dX12_tellsOf_76 ?_ ?_
          all_goals first | omega | (rcases kk with rfl | rfl | rfl | rfl | rfl | rfl | rfl | rfl <;> first | omega | rfl | exact (bgM_app _ _ _).symm)
      · refine AW.iload (pc' := 56) dX12_tellsOf_54 rfl ?_
        refine AW.iconst (pc' := 57) dX12_tellsOf_56 ?_
        refine AW.ixor (pc' := 58) dX12_tellsOf_57 ?_
        refine AW.top (b := xorI (chF a b c - paF a b 1) 5) rfl ?_
        refine AW.goto (tgt := 76) dX12_tellsOf_58 ?_
        refine AW.iret dX12_tellsOf_76 ?_ ?_
        all_goals first | omega | (rcases kk with rfl | rfl | rfl | rfl | rfl | rfl | rfl | rfl <;> first | omega | rfl | exact (bgM_app _ _ _).symm)
def acF (k b n x : Int) : Int := if b = 0 then gvF k n x else if b = 1 then chF k n x else if b = 2 then paF k n x else if b = 3 then teF k n x else 0
def acL (k b : Int) : List Int := if b = 0 then gvL k else if b = 1 then chL k else if b = 2 then paL k else if b = 3 then teL k else []
set_option maxRecDepth 100000 in
set_option maxHeartbeats 4000000 in
theorem c_X12_act {K : KT} {dep : Nat} {h : Hp} {a b c : Int} (hd : 5 ≤ dep) (q0 : 0 ≤ h 57 52 ∧ h 57 52 ≤ 50) (q1 : ∀ k : Nat, (k : Int) < h 57 52 → 0 ≤ h 84 k ∧ h 84 k ≤ 7) (q2 : inI a) (q3 : inI b) (q4 : inI c) : AM K yX12_act cX12_act 5 (some .int) dep [vR 57, vI a, vI b, vI c] h (some (vI (if (0 ≤ a ∧ a ≤ h 57 52 - 1) then acF (h 84 a.toNat) b a c else 0))) (if (0 ≤ a ∧ a ≤ h 57 52 - 1) then bgM (acL (h 84 a.toNat) b) (hset h 57 53 0) else hset h 57 53 0) := by
  refine AM.of (own := RX12) (ls := [some (vR 57), some (vI a), some (vI b), some (vI c), none]) rfl (by decide +kernel) (by exact Nat.le_of_ble_eq_true rfl) rfl (fun hO => ?_)
  refine AW.aload_n (pc' := 1) dX12_act_0 rfl ?_
  refine AW.iconst (pc' := 2) dX12_act_1 ?_
  refine AW.putI (pc' := 5) dX12_act_2 ly_57 pX12_342 rfl (by first | assumption | omega | (constructor <;> omega) | (simp only [Int.toNat_natCast]; omega) | exact b2_in _) ?_
  refine AW.iload_n (pc' := 6) dX12_act_5 rfl ?_
  refine AW.iconst (pc' := 7) dX12_act_6 ?_
  refine AW.aload_n (pc' := 8) dX12_act_7 rfl ?_
  refine AW.getI (pc' := 11) dX12_act_8 ly_57 fX12_339 rfl (fun r8 => ?_)
  try simp only [hset_app, Nat.reduceEqDiff, false_and, and_false, true_and, and_true, reduceIte] at r8 ⊢
  refine AW.iconst (pc' := 12) dX12_act_11 ?_
  refine AW.isub (pc' := 13) dX12_act_12 ?_
  refine AW.invS3 (pc' := 16) dX12_act_13 mlX12_117 mX12_isIn (c_X12_isIn (dep := dep - 1) (by first | assumption | omega | (constructor <;> omega) | (simp only [Int.toNat_natCast]; omega) | exact b2_in _) (by first | assumption | omega | (constructor <;> omega) | (simp only [Int.toNat_natCast]; omega) | exact b2_in _) (by first | assumption | omega | (constructor <;> omega) | (simp only [Int.toNat_natCast]; omega) | exact b2_in _)) ?_
  refine AW.ifb_ne (tgt := 21) (pc' := 19) dX12_act_16 (fun c16 => ?_) (fun c16 => ?_)
  · refine AW.aload_n (pc' := 22) dX12_act_21 rfl ?_
    refine AW.getR (pc' := 25) dX12_act_22 ly_57 fX12_92 rfl ?_
    refine AW.iload_n (pc' := 26) dX12_act_25 rfl ?_
    first | refine AW.ialdN (pc' := 27) dX12_act_26 ly_84 (by first | assumption | omega | (constructor <;> omega) | (simp only [Int.toNat_natCast]; omega) | exact b2_in _) (by decide) (fun r26 => ?_) | refine AW.iald (pc' := 27) dX12_act_26 ly_84 (by first | assumption | omega | (constructor <;> omega) | (simp only [Int.toNat_natCast]; omega) | exact b2_in _) (by first | assumption | omega | (constructor <;> omega) | (simp only [Int.toNat_natCast]; omega) | exact b2_in _) (by decide) (fun r26 => ?_)
    try simp only [hset_app, Nat.reduceEqDiff, false_and, and_false, true_and, and_true, reduceIte] at r26 ⊢
    refine AW.istore4 (pc' := 29) dX12_act_27 (by decide) rfl ?_
    have qk := q1 a.toNat (by omega)
    have c9 : (0 ≤ a ∧ a ≤ h 57 52 - 1) := by omega
    have rr : (hset h 57 53 0) 57 53 = 0 := hset_same _ _ _ _
    obtain ⟨h3, gh3⟩ : ∃ z, z = hset h 57 53 0 := ⟨_, rfl⟩
    rw [← gh3] at rr ⊢
    refine AW.iload_n (pc' := 30) dX12_act_29 rfl ?_
    by_cases s30_0 : b = 0
    · refine AW.top s30_0 ?_
      refine AW.tableIn (tgt := 60) (off := 30) dX12_act_30 (by decide) (by decide) (by decide) rfl ?_
      refine AW.aload_n (pc' := 61) dX12_act_60 rfl ?_
      refine AW.iload (pc' := 63) dX12_act_61 rfl ?_
      refine AW.iload_n (pc' := 64) dX12_act_63 rfl ?_
      refine AW.iload_n (pc' := 65) dX12_act_64 rfl ?_
      refine AW.invV3 (pc' := 68) dX12_act_65 mlX12_348 mX12_givesOf ly_57 rfl (c_X12_givesOf (dep := dep - 1) (by omega) (by omega) (by rw [rr]; omega)) ?_
      refine AW.iret dX12_act_68 ?_ ?_
      · refine congrArg (fun z : Int => (some (vI z) : Option AV)) ?_
        first | (rw [if_neg (by omega)]; done) | (rw [if_pos c9]; unfold acF; (repeat' split) <;> first | rfl | omega)
      · first | (rw [if_neg (by omega)]; done) | (rw [if_pos c9, gh3]; unfold acL; (repeat' split) <;> first | rfl | omega)
    by_cases s30_1 : b = 1
    · refine AW.top s30_1 ?_
      refine AW.tableIn (tgt := 69) (off := 39) dX12_act_30 (by decide) (by decide) (by decide) rfl ?_
      refine AW.aload_n (pc' := 70) dX12_act_69 rfl ?_
      refine AW.iload (pc' := 72) dX12_act_70 rfl ?_
      refine AW.iload_n (pc' := 73) dX12_act_72 rfl ?_
      refine AW.iload_n (pc' := 74) dX12_act_73 rfl ?_
      refine AW.invV3 (pc' := 77) dX12_act_74 mlX12_354 mX12_choosesOf ly_57 rfl (c_X12_choosesOf (dep := dep - 1) (by omega) (by omega) (by rw [rr]; omega)) ?_
      refine AW.iret dX12_act_77 ?_ ?_
      · refine congrArg (fun z : Int => (some (vI z) : Option AV)) ?_
        first | (rw [if_neg (by omega)]; done) | (rw [if_pos c9]; unfold acF; (repeat' split) <;> first | rfl | omega)
      · first | (rw [if_neg (by omega)]; done) | (rw [if_pos c9, gh3]; unfold acL; (repeat' split) <;> first | rfl | omega)
    by_cases s30_2 : b = 2
    · refine AW.top s30_2 ?_
      refine AW.tableIn (tgt := 78) (off := 48) dX12_act_30 (by decide) (by decide) (by decide) rfl ?_
      refine AW.aload_n (pc' := 79) dX12_act_78 rfl ?_
      refine AW.iload (pc' := 81) dX12_act_79 rfl ?_
      refine AW.iload_n (pc' := 82) dX12_act_81 rfl ?_
      refine AW.iload_n (pc' := 83) dX12_act_82 rfl ?_
      refine AW.invV3 (pc' := 86) dX12_act_83 mlX12_351 mX12_partsOf ly_57 rfl (c_X12_partsOf (dep := dep - 1) (by omega) (by omega) (by rw [rr]; omega)) ?_
      refine AW.iret dX12_act_86 ?_ ?_
      · refine congrArg (fun z : Int => (some (vI z) : Option AV)) ?_
        first | (rw [if_neg (by omega)]; done) | (rw [if_pos c9]; unfold acF; (repeat' split) <;> first | rfl | omega)
      · first | (rw [if_neg (by omega)]; done) | (rw [if_pos c9, gh3]; unfold acL; (repeat' split) <;> first | rfl | omega)
    by_cases s30_3 : b = 3
    · refine AW.top s30_3 ?_
      refine AW.tableIn (tgt := 87) (off := 57) dX12_act_30 (by decide) (by decide) (by decide) rfl ?_
      refine AW.aload_n (pc' := 88) dX12_act_87 rfl ?_
      refine AW.iload (pc' := 90) dX12_act_88 rfl ?_
      refine AW.iload_n (pc' := 91) dX12_act_90 rfl ?_
      refine AW.iload_n (pc' := 92) dX12_act_91 rfl ?_
      refine AW.invV3 (pc' := 95) dX12_act_92 mlX12_357 mX12_tellsOf ly_57 rfl (c_X12_tellsOf (dep := dep - 1) (by omega) (by omega) (by rw [rr]; omega)) ?_
      refine AW.iret dX12_act_95 ?_ ?_
      · refine congrArg (fun z : Int => (some (vI z) : Option AV)) ?_
        first | (rw [if_neg (by omega)]; done) | (rw [if_pos c9]; unfold acF; (repeat' split) <;> first | rfl | omega)
      · first | (rw [if_neg (by omega)]; done) | (rw [if_pos c9, gh3]; unfold acL; (repeat' split) <;> first | rfl | omega)
    refine AW.tableOut (tgt := 96) dX12_act_30 (by first | assumption | omega | (constructor <;> omega) | (simp only [Int.toNat_natCast]; omega) | exact b2_in _) (by omega) ?_
    refine AW.iconst (pc' := 97) dX12_act_96 ?_
    refine AW.iret dX12_act_97 ?_ ?_
    · refine congrArg (fun z : Int => (some (vI z) : Option AV)) ?_
      first | (rw [if_neg (by omega)]; done) | (rw [if_pos c9]; unfold acF; (repeat' split) <;> first | rfl | omega)
    · first | (rw [if_neg (by omega)]; done) | (rw [if_pos c9, gh3]; unfold acL; (repeat' split) <;> first | rfl | omega)
  · refine AW.iconst (pc' := 20) dX12_act_19 ?_
    refine AW.iret dX12_act_20 ?_ ?_
    · refine congrArg (fun z : Int => (some (vI z) : Option AV)) ?_
      first | (rw [if_neg (by omega)]; done) | (rw [if_pos c9]; unfold acF; (repeat' split) <;> first | rfl | omega)
    · first | (rw [if_neg (by omega)]; done) | (rw [if_pos c9, gh3]; unfold acL; (repeat' split) <;> first | rfl | omega)
set_option maxRecDepth 100000 in
set_option maxHeartbeats 4000000 in
theorem c_X11_taken {K : KT} {dep : Nat} {h : Hp} {a b : Int} (hd : 2 ≤ dep) (q0 : h 43 2 ≤ 50) (q1 : ∀ k : Nat, (k : Int) < h 43 2 → 0 ≤ h 44 k ∧ h 44 k ≤ 7) (q2 : inI a) (q3 : inI b) : AM K yX11_taken cX11_taken 4 (some .int) dep [vR 0, vI a, vI b] h (some (vI (if ¬ (0 ≤ a ∧ a < 6) ∨ ¬ (0 ≤ b ∧ b ≤ 7) then -1 else if h 47 a.toNat = 6 then -11 else if h 47 a.toNat = 5 ∧ (0 ≤ h 48 a.toNat ∧ h 48 a.toNat < h 43 2) ∧ iuF 8 (h 44 (h 48 a.toNat).toNat) b = b then h 44 (h 48 a.toNat).toNat else -12))) (h) := by
  refine AM.of (own := RX11) (ls := [some (vR 0), some (vI a), some (vI b), none]) rfl (by decide +kernel) (by exact Nat.le_of_ble_eq_true rfl) rfl (fun hO => ?_)
  refine AW.aload_n (pc' := 1) dX11_taken_0 rfl ?_
  refine AW.getR (pc' := 4) dX11_taken_1 ly_0 fX11_81 rfl ?_
  refine AW.iload_n (pc' := 5) dX11_taken_4 rfl ?_
  refine AW.invV1 (pc' := 8) dX11_taken_5 mlX11_111 mX8_has ly_46 rfl (c_X8_has (dep := dep - 1) (by first | assumption | omega | (constructor <;> omega) | (simp only [Int.toNat_natCast]; omega) | exact b2_in _)) ?_
  refine AW.ifb_eq (tgt := 21) (pc' := 11) dX11_taken_8 (fun c8 => ?_) (fun c8 => ?_)
  · refine AW.iconst (pc' := 22) dX11_taken_21 ?_
    refine AW.iret dX11_taken_22 ?_ ?_
    · refine congrArg (fun z : Int => (some (vI z) : Option AV)) ?_
      (repeat' split) <;> first | rfl | omega
    · rfl
  · refine AW.iload_n (pc' := 12) dX11_taken_11 rfl ?_
    refine AW.iconst (pc' := 13) dX11_taken_12 ?_
    refine AW.bipush (pc' := 15) dX11_taken_13 (by decide) ?_
    refine AW.invS3 (pc' := 18) dX11_taken_15 mlX11_89 mX11_within (c_X11_within (dep := dep - 1) (by first | assumption | omega | (constructor <;> omega) | (simp only [Int.toNat_natCast]; omega) | exact b2_in _) (by first | assumption | omega | (constructor <;> omega) | (simp only [Int.toNat_natCast]; omega) | exact b2_in _) (by first | assumption | omega | (constructor <;> omega) | (simp only [Int.toNat_natCast]; omega) | exact b2_in _)) ?_
    refine AW.ifb_ne (tgt := 23) (pc' := 21) dX11_taken_18 (fun c18 => ?_) (fun c18 => ?_)
    · refine AW.aload_n (pc' := 24) dX11_taken_23 rfl ?_
      refine AW.getR (pc' := 27) dX11_taken_24 ly_0 fX11_81 rfl ?_
      refine AW.getR (pc' := 30) dX11_taken_27 ly_46 fX11_115 rfl ?_
      refine AW.iload_n (pc' := 31) dX11_taken_30 rfl ?_
      first | refine AW.ialdN (pc' := 32) dX11_taken_31 ly_47 (by first | assumption | omega | (constructor <;> omega) | (simp only [Int.toNat_natCast]; omega) | exact b2_in _) (by decide) (fun r31 => ?_) | refine AW.iald (pc' := 32) dX11_taken_31 ly_47 (by first | assumption | omega | (constructor <;> omega) | (simp only [Int.toNat_natCast]; omega) | exact b2_in _) (by first | assumption | omega | (constructor <;> omega) | (simp only [Int.toNat_natCast]; omega) | exact b2_in _) (by decide) (fun r31 => ?_)
      refine AW.bipush (pc' := 34) dX11_taken_32 (by decide) ?_
      refine AW.icmp_ne (tgt := 40) (pc' := 37) dX11_taken_34 (by first | assumption | omega | (constructor <;> omega) | (simp only [Int.toNat_natCast]; omega) | exact b2_in _) (by first | assumption | omega | (constructor <;> omega) | (simp only [Int.toNat_natCast]; omega) | exact b2_in _) (fun c34 => ?_) (fun c34 => ?_)
      · refine AW.aload_n (pc' := 41) dX11_taken_40 rfl ?_
        refine AW.getR (pc' := 44) dX11_taken_41 ly_0 fX11_81 rfl ?_
        refine AW.getR (pc' := 47) dX11_taken_44 ly_46 fX11_336 rfl ?_
        refine AW.iload_n (pc' := 48) dX11_taken_47 rfl ?_
        first | refine AW.ialdN (pc' := 49) dX11_taken_48 ly_48 (by first | assumption | omega | (constructor <;> omega) | (simp only [Int.toNat_natCast]; omega) | exact b2_in _) (by decide) (fun r48 => ?_) | refine AW.iald (pc' := 49) dX11_taken_48 ly_48 (by first | assumption | omega | (constructor <;> omega) | (simp only [Int.toNat_natCast]; omega) | exact b2_in _) (by first | assumption | omega | (constructor <;> omega) | (simp only [Int.toNat_natCast]; omega) | exact b2_in _) (by decide) (fun r48 => ?_)
        refine AW.istore3n (pc' := 50) dX11_taken_49 (by decide) rfl ?_
        refine AW.aload_n (pc' := 51) dX11_taken_50 rfl ?_
        refine AW.getR (pc' := 54) dX11_taken_51 ly_0 fX11_81 rfl ?_
        refine AW.getR (pc' := 57) dX11_taken_54 ly_46 fX11_115 rfl ?_
        refine AW.iload_n (pc' := 58) dX11_taken_57 rfl ?_
        first | refine AW.ialdN (pc' := 59) dX11_taken_58 ly_47 (by first | assumption | omega | (constructor <;> omega) | (simp only [Int.toNat_natCast]; omega) | exact b2_in _) (by decide) (fun r58 => ?_) | refine AW.iald (pc' := 59) dX11_taken_58 ly_47 (by first | assumption | omega | (constructor <;> omega) | (simp only [Int.toNat_natCast]; omega) | exact b2_in _) (by first | assumption | omega | (constructor <;> omega) | (simp only [Int.toNat_natCast]; omega) | exact b2_in _) (by decide) (fun r58 => ?_)
        refine AW.iconst (pc' := 60) dX11_taken_59 ?_
        refine AW.icmp_ne (tgt := 90) (pc' := 63) dX11_taken_60 (by first | assumption | omega | (constructor <;> omega) | (simp only [Int.toNat_natCast]; omega) | exact b2_in _) (by first | assumption | omega | (constructor <;> omega) | (simp only [Int.toNat_natCast]; omega) | exact b2_in _) (fun c60 => ?_) (fun c60 => ?_)
        · refine AW.bipush (pc' := 92) dX11_taken_90 (by decide) ?_
          refine AW.iret dX11_taken_92 ?_ ?_
          · refine congrArg (fun z : Int => (some (vI z) : Option AV)) ?_
            (repeat' split) <;> first | rfl | omega
          · rfl
        · refine AW.aload_n (pc' := 64) dX11_taken_63 rfl ?_
          refine AW.getR (pc' := 67) dX11_taken_64 ly_0 fX11_74 rfl ?_
          refine AW.iload_n (pc' := 68) dX11_taken_67 rfl ?_
          refine AW.invV1 (pc' := 71) dX11_taken_68 mlX11_301 mX0_has ly_43 rfl (c_X0_has (dep := dep - 1) (by first | assumption | omega | (constructor <;> omega) | (simp only [Int.toNat_natCast]; omega) | exact b2_in _)) ?_
          refine AW.ifb_eq (tgt := 90) (pc' := 74) dX11_taken_71 (fun c71 => ?_) (fun c71 => ?_)
          · refine AW.bipush (pc' := 92) dX11_taken_90 (by decide) ?_
            refine AW.iret dX11_taken_92 ?_ ?_
            · refine congrArg (fun z : Int => (some (vI z) : Option AV)) ?_
              (repeat' split) <;> first | rfl | omega
            · rfl
          · have qk := q1 (h 48 a.toNat).toNat (by omega)
            refine AW.aload_n (pc' := 75) dX11_taken_74 rfl ?_
            refine AW.getR (pc' := 78) dX11_taken_75 ly_0 fX11_74 rfl ?_
            refine AW.getR (pc' := 81) dX11_taken_78 ly_43 fX11_339 rfl ?_
            refine AW.iload_n (pc' := 82) dX11_taken_81 rfl ?_
            first | refine AW.ialdN (pc' := 83) dX11_taken_82 ly_44 (by first | assumption | omega | (constructor <;> omega) | (simp only [Int.toNat_natCast]; omega) | exact b2_in _) (by decide) (fun r82 => ?_) | refine AW.iald (pc' := 83) dX11_taken_82 ly_44 (by first | assumption | omega | (constructor <;> omega) | (simp only [Int.toNat_natCast]; omega) | exact b2_in _) (by first | assumption | omega | (constructor <;> omega) | (simp only [Int.toNat_natCast]; omega) | exact b2_in _) (by decide) (fun r82 => ?_)
            refine AW.iload_n (pc' := 84) dX11_taken_83 rfl ?_
            refine AW.invS2 (pc' := 87) dX11_taken_84 mlX11_342 mX0_isUnder (c_X0_isUnder (dep := dep - 1) (by first | assumption | omega | (constructor <;> omega) | (simp only [Int.toNat_natCast]; omega) | exact b2_in _) (by first | assumption | omega | (constructor <;> omega) | (simp only [Int.toNat_natCast]; omega) | exact b2_in _)) ?_
            refine AW.ifb_ne (tgt := 93) (pc' := 90) dX11_taken_87 (fun c87 => ?_) (fun c87 => ?_)
            · refine AW.aload_n (pc' := 94) dX11_taken_93 rfl ?_
              refine AW.getR (pc' := 97) dX11_taken_94 ly_0 fX11_74 rfl ?_
              refine AW.getR (pc' := 100) dX11_taken_97 ly_43 fX11_339 rfl ?_
              refine AW.iload_n (pc' := 101) dX11_taken_100 rfl ?_
              first | refine AW.ialdN (pc' := 102) dX11_taken_101 ly_44 (by first | assumption | omega | (constructor <;> omega) | (simp only [Int.toNat_natCast]; omega) | exact b2_in _) (by decide) (fun r101 => ?_) | refine AW.iald (pc' := 102) dX11_taken_101 ly_44 (by first | assumption | omega | (constructor <;> omega) | (simp only [Int.toNat_natCast]; omega) | exact b2_in _) (by first | assumption | omega | (constructor <;> omega) | (simp only [Int.toNat_natCast]; omega) | exact b2_in _) (by decide) (fun r101 => ?_)
              refine AW.iret dX11_taken_102 ?_ ?_
              · refine congrArg (fun z : Int => (some (vI z) : Option AV)) ?_
                (repeat' split) <;> first | rfl | omega
              · rfl
            · refine AW.bipush (pc' := 92) dX11_taken_90 (by decide) ?_
              refine AW.iret dX11_taken_92 ?_ ?_
              · refine congrArg (fun z : Int => (some (vI z) : Option AV)) ?_
                (repeat' split) <;> first | rfl | omega
              · rfl
      · refine AW.bipush (pc' := 39) dX11_taken_37 (by decide) ?_
        refine AW.iret dX11_taken_39 ?_ ?_
        · refine congrArg (fun z : Int => (some (vI z) : Option AV)) ?_
          (repeat' split) <;> first | rfl | omega
        · rfl
    · refine AW.iconst (pc' := 22) dX11_taken_21 ?_
      refine AW.iret dX11_taken_22 ?_ ?_
      · refine congrArg (fun z : Int => (some (vI z) : Option AV)) ?_
        (repeat' split) <;> first | rfl | omega
      · rfl
def abM (a : Int) : Int := if a = 3 then 1 else if a = 5 then 2 else if a = 7 then 4 else if a = 0 then -1 else 0
def utF (kd top : Int) : Nat → Int → Int
  | 0, _ => -12
  | n + 1, up => if up < 0 then -12 else if up = top then kd else utF kd top n (abM up)
set_option maxRecDepth 100000 in
set_option maxHeartbeats 4000000 in
theorem lp_X12_taken {K : KT}  {dep : Nat} {h : Hp} {a b kd : Int} (qb : inI b) (hd : 1 ≤ dep) : ∀ (n : Nat) (up : Int), up < n → -1 ≤ up → up ≤ 7 → AW K (XM K (some (vI (utF kd b n up))) h) RX12 cX12_taken 5 (some .int) dep 60 [some (vR 57), some (vI (a)), some (vI (b)), some (vI (kd)), some (vI (up))] [] h := by
  intro n
  induction n with
  | zero =>
    intro up h1 h2 h3
    refine AW.iload (pc' := 62) dX12_taken_60 rfl ?_
    refine AW.if_lt (tgt := 83) (pc' := 65) dX12_taken_62 (by first | assumption | omega | (constructor <;> omega) | (simp only [Int.toNat_natCast]; omega) | exact b2_in _) (fun c62 => ?_) (fun c62 => ?_)
    · refine AW.bipush (pc' := 85) dX12_taken_83 (by decide) ?_
      refine AW.iret dX12_taken_85 ?_ ?_
      · rfl
      · rfl
    · omega
  | succ n ih =>
    intro up h1 h2 h3
    refine AW.iload (pc' := 62) dX12_taken_60 rfl ?_
    refine AW.if_lt (tgt := 83) (pc' := 65) dX12_taken_62 (by first | assumption | omega | (constructor <;> omega) | (simp only [Int.toNat_natCast]; omega) | exact b2_in _) (fun c62 => ?_) (fun c62 => ?_)
    · refine AW.bipush (pc' := 85) dX12_taken_83 (by decide) ?_
      refine AW.iret dX12_taken_85 ?_ ?_
      · refine congrArg (fun z : Int => (some (vI z) : Option AV)) ?_
        unfold utF
        first | (rw [if_pos (by omega)]; done) | (rw [if_neg (by omega), if_pos (by omega)])
      · rfl
    · refine AW.iload (pc' := 67) dX12_taken_65 rfl ?_
      refine AW.iload_n (pc' := 68) dX12_taken_67 rfl ?_
      refine AW.icmp_ne (tgt := 73) (pc' := 71) dX12_taken_68 (by first | assumption | omega | (constructor <;> omega) | (simp only [Int.toNat_natCast]; omega) | exact b2_in _) (by first | assumption | omega | (constructor <;> omega) | (simp only [Int.toNat_natCast]; omega) | exact b2_in _) (fun c68 => ?_) (fun c68 => ?_)
      · refine AW.iload (pc' := 75) dX12_taken_73 rfl ?_
        refine AW.invS1 (pc' := 78) dX12_taken_75 mlX12_372 mX12_above (c_X12_above (dep := dep - 1) (by first | assumption | omega | (constructor <;> omega) | (simp only [Int.toNat_natCast]; omega) | exact b2_in _)) ?_
        refine AW.istore4 (pc' := 80) dX12_taken_78 (by decide) rfl ?_
        refine AW.goto (tgt := 60) dX12_taken_80 ?_
        have z : utF kd b (n + 1) up = utF kd b n (abM up) := by
          conv => lhs; unfold utF
          rw [if_neg (by omega), if_neg (by omega)]
        rw [z]
        exact AW.weak (ih (abM up) (by unfold abM; (repeat' split) <;> omega) (by unfold abM; (repeat' split) <;> omega) (by unfold abM; (repeat' split) <;> omega)) (by (repeat' first | exact LSub.e | refine LSub.n ?_ | refine LSub.c ?_ ?_) <;> first | rfl | exact congrArg Sum.inl (by first | rfl | omega | omega) | exact congrArg (fun z : Int => (vL z : AV)) (by first | rfl | omega | omega))
      · refine AW.iload_n (pc' := 72) dX12_taken_71 rfl ?_
        refine AW.iret dX12_taken_72 ?_ ?_
        · refine congrArg (fun z : Int => (some (vI z) : Option AV)) ?_
          unfold utF
          first | (rw [if_pos (by omega)]; done) | (rw [if_neg (by omega), if_pos (by omega)])
        · rfl
set_option maxRecDepth 100000 in
set_option maxHeartbeats 4000000 in
theorem c_X12_taken {K : KT} {dep : Nat} {h : Hp} {a b : Int} (hd : 2 ≤ dep) (q0 : h 57 52 ≤ 50) (q1 : ∀ k : Nat, (k : Int) < h 57 52 → 0 ≤ h 84 k ∧ h 84 k ≤ 7) (q2 : 0 ≤ a → a < 6 → h 86 a.toNat = -1 ∨ h 86 a.toNat < -2 → 0 ≤ h 87 a.toNat ∧ h 87 a.toNat < h 57 52) (q3 : inI a) (q4 : inI b) : AM K yX12_taken cX12_taken 5 (some .int) dep [vR 57, vI a, vI b] h (some (vI (if ¬ (0 ≤ a ∧ a < 6) ∨ ¬ (0 ≤ b ∧ b ≤ 7) then -1 else if h 86 a.toNat = -2 then -11 else if 0 ≤ h 86 a.toNat then -12 else utF (h 84 (h 87 a.toNat).toNat) b 8 (h 84 (h 87 a.toNat).toNat)))) (h) := by
  refine AM.of (own := RX12) (ls := [some (vR 57), some (vI a), some (vI b), none, none]) rfl (by decide +kernel) (by exact Nat.le_of_ble_eq_true rfl) rfl (fun hO => ?_)
  refine AW.iload_n (pc' := 1) dX12_taken_0 rfl ?_
  refine AW.invS1 (pc' := 4) dX12_taken_1 mlX12_360 mX12_isShelf (c_X12_isShelf (dep := dep - 1) (by first | assumption | omega | (constructor <;> omega) | (simp only [Int.toNat_natCast]; omega) | exact b2_in _)) ?_
  refine AW.ifb_eq (tgt := 17) (pc' := 7) dX12_taken_4 (fun c4 => ?_) (fun c4 => ?_)
  · refine AW.iconst (pc' := 18) dX12_taken_17 ?_
    refine AW.iret dX12_taken_18 ?_ ?_
    · refine congrArg (fun z : Int => (some (vI z) : Option AV)) ?_
      (repeat' split) <;> first | rfl | omega
    · rfl
  · refine AW.iload_n (pc' := 8) dX12_taken_7 rfl ?_
    refine AW.iconst (pc' := 9) dX12_taken_8 ?_
    refine AW.bipush (pc' := 11) dX12_taken_9 (by decide) ?_
    refine AW.invS3 (pc' := 14) dX12_taken_11 mlX12_117 mX12_isIn (c_X12_isIn (dep := dep - 1) (by first | assumption | omega | (constructor <;> omega) | (simp only [Int.toNat_natCast]; omega) | exact b2_in _) (by first | assumption | omega | (constructor <;> omega) | (simp only [Int.toNat_natCast]; omega) | exact b2_in _) (by first | assumption | omega | (constructor <;> omega) | (simp only [Int.toNat_natCast]; omega) | exact b2_in _)) ?_
    refine AW.ifb_ne (tgt := 19) (pc' := 17) dX12_taken_14 (fun c14 => ?_) (fun c14 => ?_)
    · refine AW.aload_n (pc' := 20) dX12_taken_19 rfl ?_
      refine AW.getR (pc' := 23) dX12_taken_20 ly_57 fX12_98 rfl ?_
      refine AW.iload_n (pc' := 24) dX12_taken_23 rfl ?_
      first | refine AW.ialdN (pc' := 25) dX12_taken_24 ly_86 (by first | assumption | omega | (constructor <;> omega) | (simp only [Int.toNat_natCast]; omega) | exact b2_in _) (by decide) (fun r24 => ?_) | refine AW.iald (pc' := 25) dX12_taken_24 ly_86 (by first | assumption | omega | (constructor <;> omega) | (simp only [Int.toNat_natCast]; omega) | exact b2_in _) (by first | assumption | omega | (constructor <;> omega) | (simp only [Int.toNat_natCast]; omega) | exact b2_in _) (by decide) (fun r24 => ?_)
      refine AW.bipush (pc' := 27) dX12_taken_25 (by decide) ?_
      refine AW.icmp_ne (tgt := 33) (pc' := 30) dX12_taken_27 (by first | assumption | omega | (constructor <;> omega) | (simp only [Int.toNat_natCast]; omega) | exact b2_in _) (by first | assumption | omega | (constructor <;> omega) | (simp only [Int.toNat_natCast]; omega) | exact b2_in _) (fun c27 => ?_) (fun c27 => ?_)
      · refine AW.aload_n (pc' := 34) dX12_taken_33 rfl ?_
        refine AW.getR (pc' := 37) dX12_taken_34 ly_57 fX12_98 rfl ?_
        refine AW.iload_n (pc' := 38) dX12_taken_37 rfl ?_
        first | refine AW.ialdN (pc' := 39) dX12_taken_38 ly_86 (by first | assumption | omega | (constructor <;> omega) | (simp only [Int.toNat_natCast]; omega) | exact b2_in _) (by decide) (fun r38 => ?_) | refine AW.iald (pc' := 39) dX12_taken_38 ly_86 (by first | assumption | omega | (constructor <;> omega) | (simp only [Int.toNat_natCast]; omega) | exact b2_in _) (by first | assumption | omega | (constructor <;> omega) | (simp only [Int.toNat_natCast]; omega) | exact b2_in _) (by decide) (fun r38 => ?_)
        refine AW.if_lt (tgt := 45) (pc' := 42) dX12_taken_39 (by first | assumption | omega | (constructor <;> omega) | (simp only [Int.toNat_natCast]; omega) | exact b2_in _) (fun c39 => ?_) (fun c39 => ?_)
        · have q3 := q2 (by omega) (by omega) (by omega)
          have qk := q1 (h 87 a.toNat).toNat (by omega)
          refine AW.aload_n (pc' := 46) dX12_taken_45 rfl ?_
          refine AW.getR (pc' := 49) dX12_taken_46 ly_57 fX12_92 rfl ?_
          refine AW.aload_n (pc' := 50) dX12_taken_49 rfl ?_
          refine AW.getR (pc' := 53) dX12_taken_50 ly_57 fX12_101 rfl ?_
          refine AW.iload_n (pc' := 54) dX12_taken_53 rfl ?_
          first | refine AW.ialdN (pc' := 55) dX12_taken_54 ly_87 (by first | assumption | omega | (constructor <;> omega) | (simp only [Int.toNat_natCast]; omega) | exact b2_in _) (by decide) (fun r54 => ?_) | refine AW.iald (pc' := 55) dX12_taken_54 ly_87 (by first | assumption | omega | (constructor <;> omega) | (simp only [Int.toNat_natCast]; omega) | exact b2_in _) (by first | assumption | omega | (constructor <;> omega) | (simp only [Int.toNat_natCast]; omega) | exact b2_in _) (by decide) (fun r54 => ?_)
          first | refine AW.ialdN (pc' := 56) dX12_taken_55 ly_84 (by first | assumption | omega | (constructor <;> omega) | (simp only [Int.toNat_natCast]; omega) | exact b2_in _) (by decide) (fun r55 => ?_) | refine AW.iald (pc' := 56) dX12_taken_55 ly_84 (by first | assumption | omega | (constructor <;> omega) | (simp only [Int.toNat_natCast]; omega) | exact b2_in _) (by first | assumption | omega | (constructor <;> omega) | (simp only [Int.toNat_natCast]; omega) | exact b2_in _) (by decide) (fun r55 => ?_)
          refine AW.istore3n (pc' := 57) dX12_taken_56 (by decide) rfl ?_
          refine AW.iload_n (pc' := 58) dX12_taken_57 rfl ?_
          refine AW.istore4 (pc' := 60) dX12_taken_58 (by decide) rfl ?_
          rw [if_neg (by omega), if_neg (by omega), if_neg (by omega)]
          exact AW.weak (lp_X12_taken (by omega) (by omega) 8 _ (by omega) (by omega) (by omega)) (by (repeat' first | exact LSub.e | refine LSub.n ?_ | refine LSub.c ?_ ?_) <;> first | rfl | exact congrArg Sum.inl (by first | rfl | omega | omega) | exact congrArg (fun z : Int => (vL z : AV)) (by first | rfl | omega | omega))
        · refine AW.bipush (pc' := 44) dX12_taken_42 (by decide) ?_
          refine AW.iret dX12_taken_44 ?_ ?_
          · refine congrArg (fun z : Int => (some (vI z) : Option AV)) ?_
            (repeat' split) <;> first | rfl | omega
          · rfl
      · refine AW.bipush (pc' := 32) dX12_taken_30 (by decide) ?_
        refine AW.iret dX12_taken_32 ?_ ?_
        · refine congrArg (fun z : Int => (some (vI z) : Option AV)) ?_
          (repeat' split) <;> first | rfl | omega
        · rfl
    · refine AW.iconst (pc' := 18) dX12_taken_17 ?_
      refine AW.iret dX12_taken_18 ?_ ?_
      · refine congrArg (fun z : Int => (some (vI z) : Option AV)) ?_
        (repeat' split) <;> first | rfl | omega
      · rfl
