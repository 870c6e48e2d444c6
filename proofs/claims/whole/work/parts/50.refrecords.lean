/-! records: the reference -/
abbrev befP (ye ti : Nat → Int) (a b : Int) : Prop := ye a.toNat < ye b.toNat ∨ ye a.toNat = ye b.toNat ∧ (ti a.toNat < ti b.toNat ∨ ti a.toNat = ti b.toNat ∧ a < b)
/-- is there a run among k .. that a record must not follow -/
def irB (wh sh th ye ti : Nat → Int) (run lim : Int) : Nat → Nat → Bool
  | 0, _ => true
  | n + 1, k => if wh k = wh run.toNat ∧ ¬ faP sh th lim k ∧ befP ye ti k run ∧ ti k ≤ ti run.toNat then false else irB wh sh th ye ti run lim n (k + 1)
abbrev irH (h : Hp) (run lim : Int) : Bool := irB (h 67) (h 70) (h 62) (h 68) (h 69) run lim (h 57 16).toNat 0
abbrev isR (h : Hp) (run lim : Int) : Prop := ¬ faP (h 70) (h 62) lim run.toNat ∧ irH h run lim = true
set_option maxRecDepth 100000 in
set_option maxHeartbeats 4000000 in
theorem lp_X12_isRecord {K : KT}  {dep : Nat} {h : Hp} {a b : Int} (hI : IMa h) (qa : 0 ≤ a ∧ a < h 57 16) (qb : inI b) (hd : 1 ≤ dep) : ∀ (n k : Nat), (k : Int) + n = h 57 16 → AW K (XM K (some (vI (b2 (irB (h 67) (h 70) (h 62) (h 68) (h 69) a b n k = true)))) h) RX12 cX12_isRecord 4 (some .boolean) dep 13 [some (vR 57), some (vI (a)), some (vI (b)), some (vI ((k : Int)))] [] h := by
  have g6 := hI.2.2.2.1
  have g7 := hI.2.2.2.2.1
  have g8 := hI.2.1.2.1
  intro n
  induction n with
  | zero =>
    intro k hk
    refine AW.iload_n (pc' := 14) dX12_isRecord_13 rfl ?_
    refine AW.aload_n (pc' := 15) dX12_isRecord_14 rfl ?_
    refine AW.getI (pc' := 18) dX12_isRecord_15 ly_57 fX12_128 rfl (fun r15 => ?_)
    refine AW.icmp_ge (tgt := 77) (pc' := 21) dX12_isRecord_18 (by first | assumption | omega | (constructor <;> omega) | (simp only [Int.toNat_natCast]; omega) | exact b2_in _) (by first | assumption | omega | (constructor <;> omega) | (simp only [Int.toNat_natCast]; omega) | exact b2_in _) (fun c18 => ?_) (fun c18 => ?_)
    · refine AW.iconst (pc' := 78) dX12_isRecord_77 ?_
      refine AW.zret dX12_isRecord_78 ?_ ?_ (by first | exact Or.inl rfl | exact Or.inr rfl | exact b2_01 _ | assumption | (subst_vars; omega))
      · rfl
      · rfl
    · omega
  | succ n ih =>
    intro k hk
    have hkr : (k : Int) < h 57 16 := by omega
    have g5 := hI.2.2.2.2.2 k hkr
    have g9 := hI.2.2.2.2.2 a.toNat (by omega)
    refine AW.iload_n (pc' := 14) dX12_isRecord_13 rfl ?_
    refine AW.aload_n (pc' := 15) dX12_isRecord_14 rfl ?_
    refine AW.getI (pc' := 18) dX12_isRecord_15 ly_57 fX12_128 rfl (fun r15 => ?_)
    try simp only [Int.toNat_natCast] at r15 ⊢
    refine AW.icmp_ge (tgt := 77) (pc' := 21) dX12_isRecord_18 (by first | assumption | omega | (constructor <;> omega) | (simp only [Int.toNat_natCast]; omega) | exact b2_in _) (by first | assumption | omega | (constructor <;> omega) | (simp only [Int.toNat_natCast]; omega) | exact b2_in _) (fun c18 => ?_) (fun c18 => ?_)
    · omega
    · refine AW.aload_n (pc' := 22) dX12_isRecord_21 rfl ?_
      refine AW.getR (pc' := 25) dX12_isRecord_22 ly_57 fX12_37 rfl ?_
      refine AW.iload_n (pc' := 26) dX12_isRecord_25 rfl ?_
      first | refine AW.ialdN (pc' := 27) dX12_isRecord_26 ly_67 (by first | assumption | omega | (constructor <;> omega) | (simp only [Int.toNat_natCast]; omega) | exact b2_in _) (by decide) (fun r26 => ?_) | refine AW.iald (pc' := 27) dX12_isRecord_26 ly_67 (by first | assumption | omega | (constructor <;> omega) | (simp only [Int.toNat_natCast]; omega) | exact b2_in _) (by first | assumption | omega | (constructor <;> omega) | (simp only [Int.toNat_natCast]; omega) | exact b2_in _) (by decide) (fun r26 => ?_)
      try simp only [Int.toNat_natCast] at r26 ⊢
      refine AW.aload_n (pc' := 28) dX12_isRecord_27 rfl ?_
      refine AW.getR (pc' := 31) dX12_isRecord_28 ly_57 fX12_37 rfl ?_
      refine AW.iload_n (pc' := 32) dX12_isRecord_31 rfl ?_
      first | refine AW.ialdN (pc' := 33) dX12_isRecord_32 ly_67 (by first | assumption | omega | (constructor <;> omega) | (simp only [Int.toNat_natCast]; omega) | exact b2_in _) (by decide) (fun r32 => ?_) | refine AW.iald (pc' := 33) dX12_isRecord_32 ly_67 (by first | assumption | omega | (constructor <;> omega) | (simp only [Int.toNat_natCast]; omega) | exact b2_in _) (by first | assumption | omega | (constructor <;> omega) | (simp only [Int.toNat_natCast]; omega) | exact b2_in _) (by decide) (fun r32 => ?_)
      try simp only [Int.toNat_natCast] at r32 ⊢
      refine AW.icmp_ne (tgt := 71) (pc' := 36) dX12_isRecord_33 (by first | assumption | omega | (constructor <;> omega) | (simp only [Int.toNat_natCast]; omega) | exact b2_in _) (by first | assumption | omega | (constructor <;> omega) | (simp only [Int.toNat_natCast]; omega) | exact b2_in _) (fun c33 => ?_) (fun c33 => ?_)
      · refine AW.iinc3 (pc' := 74) dX12_isRecord_71 (by decide) rfl ?_
        refine AW.goto (tgt := 13) dX12_isRecord_74 ?_
        have z : irB (h 67) (h 70) (h 62) (h 68) (h 69) a b (n + 1) k = irB (h 67) (h 70) (h 62) (h 68) (h 69) a b n (k + 1) := by
          conv => lhs; unfold irB
          rw [if_neg (by simp only [faP, befP, Int.toNat_natCast]; omega)]
        rw [z]
        exact AW.weak (ih (k + 1) (by omega)) (by (repeat' first | exact LSub.e | refine LSub.n ?_ | refine LSub.c ?_ ?_) <;> first | rfl | exact congrArg Sum.inl (by first | rfl | omega | (push_cast; omega)) | exact congrArg (fun z : Int => (vL z : AV)) (by first | rfl | omega | (push_cast; omega)))
      · refine AW.aload_n (pc' := 37) dX12_isRecord_36 rfl ?_
        refine AW.iload_n (pc' := 38) dX12_isRecord_37 rfl ?_
        refine AW.iload_n (pc' := 39) dX12_isRecord_38 rfl ?_
        refine AW.invV2 (pc' := 42) dX12_isRecord_39 mlX12_328 mX12_falls ly_57 rfl (c_X12_falls (dep := dep - 1) (by first | assumption | omega | (constructor <;> omega) | (simp only [Int.toNat_natCast]; omega) | exact b2_in _) (by first | assumption | omega | (constructor <;> omega) | (simp only [Int.toNat_natCast]; omega) | exact b2_in _) (by first | assumption | omega | (constructor <;> omega) | (simp only [Int.toNat_natCast]; omega) | exact b2_in _)) ?_
        try simp only [Int.toNat_natCast, Int.toNat_natCast]
        refine AW.ifb_ne (tgt := 71) (pc' := 45) dX12_isRecord_42 (fun c42 => ?_) (fun c42 => ?_)
        · refine AW.iinc3 (pc' := 74) dX12_isRecord_71 (by decide) rfl ?_
          refine AW.goto (tgt := 13) dX12_isRecord_74 ?_
          have z : irB (h 67) (h 70) (h 62) (h 68) (h 69) a b (n + 1) k = irB (h 67) (h 70) (h 62) (h 68) (h 69) a b n (k + 1) := by
            conv => lhs; unfold irB
            rw [if_neg (by simp only [faP, befP, Int.toNat_natCast]; omega)]
          rw [z]
          exact AW.weak (ih (k + 1) (by omega)) (by (repeat' first | exact LSub.e | refine LSub.n ?_ | refine LSub.c ?_ ?_) <;> first | rfl | exact congrArg Sum.inl (by first | rfl | omega | (push_cast; omega)) | exact congrArg (fun z : Int => (vL z : AV)) (by first | rfl | omega | (push_cast; omega)))
        · refine AW.aload_n (pc' := 46) dX12_isRecord_45 rfl ?_
          refine AW.iload_n (pc' := 47) dX12_isRecord_46 rfl ?_
          refine AW.iload_n (pc' := 48) dX12_isRecord_47 rfl ?_
          refine AW.invV2 (pc' := 51) dX12_isRecord_48 mlX12_331 mX12_isBefore ly_57 rfl (c_X12_isBefore (dep := dep - 1) (by first | assumption | omega | (constructor <;> omega) | (simp only [Int.toNat_natCast]; omega) | exact b2_in _) (by first | assumption | omega | (constructor <;> omega) | (simp only [Int.toNat_natCast]; omega) | exact b2_in _)) ?_
          try simp only [Int.toNat_natCast, Int.toNat_natCast]
          refine AW.ifb_eq (tgt := 71) (pc' := 54) dX12_isRecord_51 (fun c51 => ?_) (fun c51 => ?_)
          · refine AW.iinc3 (pc' := 74) dX12_isRecord_71 (by decide) rfl ?_
            refine AW.goto (tgt := 13) dX12_isRecord_74 ?_
            have z : irB (h 67) (h 70) (h 62) (h 68) (h 69) a b (n + 1) k = irB (h 67) (h 70) (h 62) (h 68) (h 69) a b n (k + 1) := by
              conv => lhs; unfold irB
              rw [if_neg (by simp only [faP, befP, Int.toNat_natCast]; omega)]
            rw [z]
            exact AW.weak (ih (k + 1) (by omega)) (by (repeat' first | exact LSub.e | refine LSub.n ?_ | refine LSub.c ?_ ?_) <;> first | rfl | exact congrArg Sum.inl (by first | rfl | omega | (push_cast; omega)) | exact congrArg (fun z : Int => (vL z : AV)) (by first | rfl | omega | (push_cast; omega)))
          · refine AW.aload_n (pc' := 55) dX12_isRecord_54 rfl ?_
            refine AW.getR (pc' := 58) dX12_isRecord_55 ly_57 fX12_43 rfl ?_
            refine AW.iload_n (pc' := 59) dX12_isRecord_58 rfl ?_
            first | refine AW.ialdN (pc' := 60) dX12_isRecord_59 ly_69 (by first | assumption | omega | (constructor <;> omega) | (simp only [Int.toNat_natCast]; omega) | exact b2_in _) (by decide) (fun r59 => ?_) | refine AW.iald (pc' := 60) dX12_isRecord_59 ly_69 (by first | assumption | omega | (constructor <;> omega) | (simp only [Int.toNat_natCast]; omega) | exact b2_in _) (by first | assumption | omega | (constructor <;> omega) | (simp only [Int.toNat_natCast]; omega) | exact b2_in _) (by decide) (fun r59 => ?_)
            try simp only [Int.toNat_natCast] at r59 ⊢
            refine AW.aload_n (pc' := 61) dX12_isRecord_60 rfl ?_
            refine AW.getR (pc' := 64) dX12_isRecord_61 ly_57 fX12_43 rfl ?_
            refine AW.iload_n (pc' := 65) dX12_isRecord_64 rfl ?_
            first | refine AW.ialdN (pc' := 66) dX12_isRecord_65 ly_69 (by first | assumption | omega | (constructor <;> omega) | (simp only [Int.toNat_natCast]; omega) | exact b2_in _) (by decide) (fun r65 => ?_) | refine AW.iald (pc' := 66) dX12_isRecord_65 ly_69 (by first | assumption | omega | (constructor <;> omega) | (simp only [Int.toNat_natCast]; omega) | exact b2_in _) (by first | assumption | omega | (constructor <;> omega) | (simp only [Int.toNat_natCast]; omega) | exact b2_in _) (by decide) (fun r65 => ?_)
            try simp only [Int.toNat_natCast] at r65 ⊢
            refine AW.icmp_gt (tgt := 71) (pc' := 69) dX12_isRecord_66 (by first | assumption | omega | (constructor <;> omega) | (simp only [Int.toNat_natCast]; omega) | exact b2_in _) (by first | assumption | omega | (constructor <;> omega) | (simp only [Int.toNat_natCast]; omega) | exact b2_in _) (fun c66 => ?_) (fun c66 => ?_)
            · refine AW.iinc3 (pc' := 74) dX12_isRecord_71 (by decide) rfl ?_
              refine AW.goto (tgt := 13) dX12_isRecord_74 ?_
              have z : irB (h 67) (h 70) (h 62) (h 68) (h 69) a b (n + 1) k = irB (h 67) (h 70) (h 62) (h 68) (h 69) a b n (k + 1) := by
                conv => lhs; unfold irB
                rw [if_neg (by simp only [faP, befP, Int.toNat_natCast]; omega)]
              rw [z]
              exact AW.weak (ih (k + 1) (by omega)) (by (repeat' first | exact LSub.e | refine LSub.n ?_ | refine LSub.c ?_ ?_) <;> first | rfl | exact congrArg Sum.inl (by first | rfl | omega | (push_cast; omega)) | exact congrArg (fun z : Int => (vL z : AV)) (by first | rfl | omega | (push_cast; omega)))
            · refine AW.iconst (pc' := 70) dX12_isRecord_69 ?_
              refine AW.zret dX12_isRecord_70 ?_ ?_ (by first | exact Or.inl rfl | exact Or.inr rfl | exact b2_01 _ | assumption | (subst_vars; omega))
              · refine congrArg (fun z : Int => (some (vI z) : Option AV)) ?_
                unfold irB
                rw [if_pos (by simp only [faP, befP, Int.toNat_natCast]; omega)]
                rfl
              · rfl
set_option maxRecDepth 100000 in
set_option maxHeartbeats 4000000 in
theorem c_X12_isRecord {K : KT} {dep : Nat} {h : Hp} {a b : Int} (hd : 1 ≤ dep) (hI : IMa h) (qa : 0 ≤ a ∧ a < h 57 16) (q2 : inI b) : AM K yX12_isRecord cX12_isRecord 4 (some .boolean) dep [vR 57, vI a, vI b] h (some (vI (b2 (isR h a b)))) (h) := by
  refine AM.of (own := RX12) (ls := [some (vR 57), some (vI a), some (vI b), none]) rfl (by decide +kernel) (by exact Nat.le_of_ble_eq_true rfl) rfl (fun hO => ?_)
  have g6 := hI.2.2.2.1
  have g7 := hI.2.2.2.2.1
  have g8 := hI.2.1.2.1
  have g9 := hI.2.2.2.2.2 a.toNat (by omega)
  refine AW.aload_n (pc' := 1) dX12_isRecord_0 rfl ?_
  refine AW.iload_n (pc' := 2) dX12_isRecord_1 rfl ?_
  refine AW.iload_n (pc' := 3) dX12_isRecord_2 rfl ?_
  refine AW.invV2 (pc' := 6) dX12_isRecord_3 mlX12_328 mX12_falls ly_57 rfl (c_X12_falls (dep := dep - 1) (by first | assumption | omega | (constructor <;> omega) | (simp only [Int.toNat_natCast]; omega) | exact b2_in _) (by first | assumption | omega | (constructor <;> omega) | (simp only [Int.toNat_natCast]; omega) | exact b2_in _) (by first | assumption | omega | (constructor <;> omega) | (simp only [Int.toNat_natCast]; omega) | exact b2_in _)) ?_
  refine AW.ifb_eq (tgt := 11) (pc' := 9) dX12_isRecord_6 (fun c6 => ?_) (fun c6 => ?_)
  · refine AW.iconst (pc' := 12) dX12_isRecord_11 ?_
    refine AW.istore3n (pc' := 13) dX12_isRecord_12 (by decide) rfl ?_
    have nf : ¬ faP (h 70) (h 62) b a.toNat := by simp only [faP]; omega
    have z := lp_X12_isRecord (K := K) (dep := dep) (h := h) (a := a) (b := b) hI qa (by omega) hd (h 57 16).toNat 0 (by omega)
    have e : b2 (isR h a b) = b2 (irB (h 67) (h 70) (h 62) (h 68) (h 69) a b (h 57 16).toNat 0 = true) := by
      by_cases y : irB (h 67) (h 70) (h 62) (h 68) (h 69) a b (h 57 16).toNat 0 = true
      · rw [b2_t y, b2_t ⟨nf, y⟩]
      · rw [b2_f y, b2_f (fun w => y w.2)]
    rw [e]
    exact AW.weak z (by (repeat' first | exact LSub.e | refine LSub.n ?_ | refine LSub.c ?_ ?_) <;> first | rfl | exact congrArg Sum.inl (by first | rfl | omega | omega) | exact congrArg (fun z : Int => (vL z : AV)) (by first | rfl | omega | omega))
  · refine AW.iconst (pc' := 10) dX12_isRecord_9 ?_
    refine AW.zret dX12_isRecord_10 ?_ ?_ (by first | exact Or.inl rfl | exact Or.inr rfl | exact b2_01 _ | assumption | (subst_vars; omega))
    · first | exact congrArg (fun z : Int => (some (vI z) : Option AV)) (b2_f (fun w => w.1 (by simp only [faP]; omega))) | exact congrArg (fun z : Int => (some (vI z) : Option AV)) (b2_f (fun w => w.1 (by simp only [faP]; omega))).symm
    · rfl
def nrS (h : Hp) (c lim last : Int) (k : Nat) (nx : Int) : Int := if h 67 k = c ∧ isR h k lim ∧ (last < 0 ∨ befP (h 68) (h 69) last k) ∧ (nx < 0 ∨ befP (h 68) (h 69) k nx) then (k : Int) else nx
theorem nrS_in {h : Hp} {c lim last : Int} {k : Nat} {nx : Int} (q : nx = -1 ∨ 0 ≤ nx ∧ nx < k) : nrS h c lim last k nx = -1 ∨ 0 ≤ nrS h c lim last k nx ∧ nrS h c lim last k nx < k + 1 := by unfold nrS; split <;> omega
abbrev nrF (h : Hp) (c lim last : Int) : Int := lp (nrS h c lim last) (h 57 16).toNat 0 (-1)
theorem nrL_in {h : Hp} {c lim last : Int} : ∀ (n k : Nat) (nx : Int), (nx = -1 ∨ 0 ≤ nx ∧ nx < k) → lp (nrS h c lim last) n k nx = -1 ∨ 0 ≤ lp (nrS h c lim last) n k nx ∧ lp (nrS h c lim last) n k nx < k + n
  | 0, k, nx, q => by unfold lp; omega
  | n + 1, k, nx, q => by
    unfold lp
    have := nrL_in (h := h) (c := c) (lim := lim) (last := last) n (k + 1) (nrS h c lim last k nx) (by have := nrS_in (h := h) (c := c) (lim := lim) (last := last) q; omega)
    omega
/-- the next one stands behind the last -/
theorem nrL_aft {h : Hp} {c lim last : Int} : ∀ (n k : Nat) (nx : Int), (nx < 0 ∨ last < 0 ∨ befP (h 68) (h 69) last nx) → (lp (nrS h c lim last) n k nx < 0 ∨ last < 0 ∨ befP (h 68) (h 69) last (lp (nrS h c lim last) n k nx))
  | 0, k, nx, q => q
  | n + 1, k, nx, q => by
    unfold lp
    refine nrL_aft n (k + 1) _ ?_
    unfold nrS
    split
    · rename_i z
      exact Or.inr z.2.2.1
    · exact q
/-- how many runs stand behind the last -/
def cnA (ye ti : Nat → Int) (last : Int) : Nat → Nat
  | 0 => 0
  | n + 1 => cnA ye ti last n + (if last < 0 ∨ befP ye ti last n then 1 else 0)
theorem cnA_le (ye ti : Nat → Int) (last : Int) : ∀ n : Nat, cnA ye ti last n ≤ n
  | 0 => Nat.le_refl _
  | n + 1 => by
    have := cnA_le ye ti last n
    unfold cnA
    split <;> omega
theorem cnA_mono {ye ti : Nat → Int} {last nx : Int} (h0 : 0 ≤ nx) (h : last < 0 ∨ befP ye ti last nx) : ∀ n : Nat, cnA ye ti nx n ≤ cnA ye ti last n ∧ (nx < n → cnA ye ti nx n < cnA ye ti last n)
  | 0 => ⟨Nat.le_refl _, fun z => by omega⟩
  | n + 1 => by
    have q := cnA_mono h0 h n
    have tr : (nx < 0 ∨ befP ye ti nx n) → (last < 0 ∨ befP ye ti last n) := fun z => by
      simp only [befP, Int.toNat_natCast] at z h ⊢
      omega
    have e1 : cnA ye ti nx (n + 1) = cnA ye ti nx n + (if nx < 0 ∨ befP ye ti nx n then 1 else 0) := rfl
    have e2 : cnA ye ti last (n + 1) = cnA ye ti last n + (if last < 0 ∨ befP ye ti last n then 1 else 0) := rfl
    by_cases z : nx < 0 ∨ befP ye ti nx n
    · rw [if_pos z] at e1
      rw [if_pos (tr z)] at e2
      refine ⟨by omega, fun y => ?_⟩
      by_cases w : nx = n
      · exfalso
        simp only [befP, Int.toNat_natCast] at z
        have e : nx.toNat = n := by omega
        rw [e] at z
        omega
      · have := q.2 (by omega)
        omega
    · rw [if_neg z] at e1
      refine ⟨by rw [e1, e2]; split <;> omega, fun y => ?_⟩
      by_cases w : nx = n
      · have e : last < 0 ∨ befP ye ti last n := by
          rw [w] at h
          exact h
        rw [if_pos e] at e2
        omega
      · have := q.2 (by omega)
        rw [e1, e2]
        split <;> omega
def rcF (h : Hp) (c lim i : Int) : Nat → Int → Int → Int
  | 0, _, _ => -1
  | f + 1, n, last => if nrF h c lim last < 0 then (if i = -1 then n else -1) else if n = i then nrF h c lim last else rcF h c lim i f (n + 1) (nrF h c lim last)
set_option maxRecDepth 100000 in
set_option maxHeartbeats 4000000 in
theorem lp_X12_recordsI {K : KT} {X : XT} {dep : Nat} {h : Hp} {c lim i n2 last : Int} (hI : IMa h) (qc : inI c) (qb : inI lim) (ql : -1 ≤ last ∧ last < h 57 16) (hd : 2 ≤ dep) : ∀ (n k : Nat) (acc : Int), (k : Int) + n = h 57 16 → acc = -1 ∨ 0 ≤ acc ∧ acc < k → AW K X RX12 cX12_records 8 (some .int) dep 109 [some (vR 57), some (vI (c)), some (vI (lim)), some (vI (i)), some (vI (n2)), some (vI (last)), some (vI ((lp (nrS h c lim last) n k acc))), none] [] h → AW K X RX12 cX12_records 8 (some .int) dep 37 [some (vR 57), some (vI (c)), some (vI (lim)), some (vI (i)), some (vI (n2)), some (vI (last)), some (vI (acc)), some (vI ((k : Int)))] [] h := by
  have g6 := hI.2.2.2.1
  have g7 := hI.2.2.2.2.1
  have g8 := hI.2.1.2.1
  intro n
  induction n with
  | zero =>
    intro k acc hk i0 kk
    refine AW.iload (pc' := 39) dX12_records_37 rfl ?_
    refine AW.aload_n (pc' := 40) dX12_records_39 rfl ?_
    refine AW.getI (pc' := 43) dX12_records_40 ly_57 fX12_128 rfl (fun r40 => ?_)
    refine AW.icmp_ge (tgt := 109) (pc' := 46) dX12_records_43 (by first | assumption | omega | (constructor <;> omega) | (simp only [Int.toNat_natCast]; omega) | exact b2_in _) (by first | assumption | omega | (constructor <;> omega) | (simp only [Int.toNat_natCast]; omega) | exact b2_in _) (fun c43 => ?_) (fun c43 => ?_)
    · exact AW.weak kk (by (repeat' first | exact LSub.e | refine LSub.n ?_ | refine LSub.c ?_ ?_) <;> first | rfl | exact congrArg Sum.inl (by first | rfl | omega | omega) | exact congrArg (fun z : Int => (vL z : AV)) (by first | rfl | omega | omega))
    · omega
  | succ n ih =>
    intro k acc hk i0 kk
    have hkr : ((k : Nat) : Int) < h 57 16 := by omega
    have g5 := hI.2.2.2.2.2 k hkr
    refine AW.iload (pc' := 39) dX12_records_37 rfl ?_
    refine AW.aload_n (pc' := 40) dX12_records_39 rfl ?_
    refine AW.getI (pc' := 43) dX12_records_40 ly_57 fX12_128 rfl (fun r40 => ?_)
    refine AW.icmp_ge (tgt := 109) (pc' := 46) dX12_records_43 (by first | assumption | omega | (constructor <;> omega) | (simp only [Int.toNat_natCast]; omega) | exact b2_in _) (by first | assumption | omega | (constructor <;> omega) | (simp only [Int.toNat_natCast]; omega) | exact b2_in _) (fun c43 => ?_) (fun c43 => ?_)
    · omega
    · refine AW.aload_n (pc' := 47) dX12_records_46 rfl ?_
      refine AW.getR (pc' := 50) dX12_records_47 ly_57 fX12_37 rfl ?_
      refine AW.iload (pc' := 52) dX12_records_50 rfl ?_
      first | refine AW.ialdN (pc' := 53) dX12_records_52 ly_67 (by first | assumption | omega | (constructor <;> omega) | (simp only [Int.toNat_natCast]; omega) | exact b2_in _) (by decide) (fun r52 => ?_) | refine AW.iald (pc' := 53) dX12_records_52 ly_67 (by first | assumption | omega | (constructor <;> omega) | (simp only [Int.toNat_natCast]; omega) | exact b2_in _) (by first | assumption | omega | (constructor <;> omega) | (simp only [Int.toNat_natCast]; omega) | exact b2_in _) (by decide) (fun r52 => ?_)
      refine AW.iload_n (pc' := 54) dX12_records_53 rfl ?_
      refine AW.icmp_ne (tgt := 103) (pc' := 57) dX12_records_54 (by first | assumption | omega | (constructor <;> omega) | (simp only [Int.toNat_natCast]; omega) | exact b2_in _) (by first | assumption | omega | (constructor <;> omega) | (simp only [Int.toNat_natCast]; omega) | exact b2_in _) (fun c54 => ?_) (fun c54 => ?_)
      · refine AW.iinc7 (pc' := 106) dX12_records_103 (by decide) rfl ?_
        refine AW.goto (tgt := 37) dX12_records_106 ?_
        exact AW.weak (ih (k + 1) ((nrS h c lim last) k acc) (by omega) (by first | omega | (have := nrS_in (h := h) (c := c) (lim := lim) (last := last) i0; omega)) kk) (by (repeat' first | exact LSub.e | refine LSub.n ?_ | refine LSub.c ?_ ?_) <;> first | rfl | exact congrArg Sum.inl (by first | rfl | omega | (unfold nrS; first | (rw [if_pos (by simp only [befP, Int.toNat_natCast] at *; first | omega | exact ⟨by omega, by assumption, by omega, by omega⟩)]; done) | (rw [if_neg (by intro w; simp only [befP, Int.toNat_natCast] at *; first | omega | exact absurd w.2.1 (by assumption))]; done))) | exact congrArg (fun z : Int => (vL z : AV)) (by first | rfl | omega | (unfold nrS; first | (rw [if_pos (by simp only [befP, Int.toNat_natCast] at *; first | omega | exact ⟨by omega, by assumption, by omega, by omega⟩)]; done) | (rw [if_neg (by intro w; simp only [befP, Int.toNat_natCast] at *; first | omega | exact absurd w.2.1 (by assumption))]; done))))
      · refine AW.aload_n (pc' := 58) dX12_records_57 rfl ?_
        refine AW.iload (pc' := 60) dX12_records_58 rfl ?_
        refine AW.iload_n (pc' := 61) dX12_records_60 rfl ?_
        refine AW.invV2 (pc' := 64) dX12_records_61 mlX12_334 mX12_isRecord ly_57 rfl (c_X12_isRecord (dep := dep - 1) (by first | assumption | omega | (constructor <;> omega) | (simp only [Int.toNat_natCast]; omega) | exact b2_in _) (by first | assumption | omega | (constructor <;> omega) | (simp only [Int.toNat_natCast]; omega) | exact b2_in _) (by first | assumption | omega | (constructor <;> omega) | (simp only [Int.toNat_natCast]; omega) | exact b2_in _) (by first | assumption | omega | (constructor <;> omega) | (simp only [Int.toNat_natCast]; omega) | exact b2_in _)) ?_
        try simp only [Int.toNat_natCast]
        refine AW.ifb_eq (tgt := 103) (pc' := 67) dX12_records_64 (fun c64 => ?_) (fun c64 => ?_)
        · refine AW.iinc7 (pc' := 106) dX12_records_103 (by decide) rfl ?_
          refine AW.goto (tgt := 37) dX12_records_106 ?_
          exact AW.weak (ih (k + 1) ((nrS h c lim last) k acc) (by omega) (by first | omega | (have := nrS_in (h := h) (c := c) (lim := lim) (last := last) i0; omega)) kk) (by (repeat' first | exact LSub.e | refine LSub.n ?_ | refine LSub.c ?_ ?_) <;> first | rfl | exact congrArg Sum.inl (by first | rfl | omega | (unfold nrS; first | (rw [if_pos (by simp only [befP, Int.toNat_natCast] at *; first | omega | exact ⟨by omega, by assumption, by omega, by omega⟩)]; done) | (rw [if_neg (by intro w; simp only [befP, Int.toNat_natCast] at *; first | omega | exact absurd w.2.1 (by assumption))]; done))) | exact congrArg (fun z : Int => (vL z : AV)) (by first | rfl | omega | (unfold nrS; first | (rw [if_pos (by simp only [befP, Int.toNat_natCast] at *; first | omega | exact ⟨by omega, by assumption, by omega, by omega⟩)]; done) | (rw [if_neg (by intro w; simp only [befP, Int.toNat_natCast] at *; first | omega | exact absurd w.2.1 (by assumption))]; done))))
        · refine AW.iload (pc' := 69) dX12_records_67 rfl ?_
          refine AW.if_lt (tgt := 83) (pc' := 72) dX12_records_69 (by first | assumption | omega | (constructor <;> omega) | (simp only [Int.toNat_natCast]; omega) | exact b2_in _) (fun c69 => ?_) (fun c69 => ?_)
          · refine AW.iload (pc' := 85) dX12_records_83 rfl ?_
            refine AW.if_lt (tgt := 99) (pc' := 88) dX12_records_85 (by first | assumption | omega | (constructor <;> omega) | (simp only [Int.toNat_natCast]; omega) | exact b2_in _) (fun c85 => ?_) (fun c85 => ?_)
            · refine AW.iload (pc' := 101) dX12_records_99 rfl ?_
              refine AW.istore6 (pc' := 103) dX12_records_101 (by decide) rfl ?_
              refine AW.iinc7 (pc' := 106) dX12_records_103 (by decide) rfl ?_
              refine AW.goto (tgt := 37) dX12_records_106 ?_
              exact AW.weak (ih (k + 1) ((nrS h c lim last) k acc) (by omega) (by first | omega | (have := nrS_in (h := h) (c := c) (lim := lim) (last := last) i0; omega)) kk) (by (repeat' first | exact LSub.e | refine LSub.n ?_ | refine LSub.c ?_ ?_) <;> first | rfl | exact congrArg Sum.inl (by first | rfl | omega | (unfold nrS; first | (rw [if_pos (by simp only [befP, Int.toNat_natCast] at *; first | omega | exact ⟨by omega, by assumption, by omega, by omega⟩)]; done) | (rw [if_neg (by intro w; simp only [befP, Int.toNat_natCast] at *; first | omega | exact absurd w.2.1 (by assumption))]; done))) | exact congrArg (fun z : Int => (vL z : AV)) (by first | rfl | omega | (unfold nrS; first | (rw [if_pos (by simp only [befP, Int.toNat_natCast] at *; first | omega | exact ⟨by omega, by assumption, by omega, by omega⟩)]; done) | (rw [if_neg (by intro w; simp only [befP, Int.toNat_natCast] at *; first | omega | exact absurd w.2.1 (by assumption))]; done))))
            · refine AW.aload_n (pc' := 89) dX12_records_88 rfl ?_
              refine AW.iload (pc' := 91) dX12_records_89 rfl ?_
              refine AW.iload (pc' := 93) dX12_records_91 rfl ?_
              refine AW.invV2 (pc' := 96) dX12_records_93 mlX12_331 mX12_isBefore ly_57 rfl (c_X12_isBefore (dep := dep - 1) (by first | assumption | omega | (constructor <;> omega) | (simp only [Int.toNat_natCast]; omega) | exact b2_in _) (by first | assumption | omega | (constructor <;> omega) | (simp only [Int.toNat_natCast]; omega) | exact b2_in _)) ?_
              try simp only [Int.toNat_natCast]
              refine AW.ifb_eq (tgt := 103) (pc' := 99) dX12_records_96 (fun c96 => ?_) (fun c96 => ?_)
              · refine AW.iinc7 (pc' := 106) dX12_records_103 (by decide) rfl ?_
                refine AW.goto (tgt := 37) dX12_records_106 ?_
                exact AW.weak (ih (k + 1) ((nrS h c lim last) k acc) (by omega) (by first | omega | (have := nrS_in (h := h) (c := c) (lim := lim) (last := last) i0; omega)) kk) (by (repeat' first | exact LSub.e | refine LSub.n ?_ | refine LSub.c ?_ ?_) <;> first | rfl | exact congrArg Sum.inl (by first | rfl | omega | (unfold nrS; first | (rw [if_pos (by simp only [befP, Int.toNat_natCast] at *; first | omega | exact ⟨by omega, by assumption, by omega, by omega⟩)]; done) | (rw [if_neg (by intro w; simp only [befP, Int.toNat_natCast] at *; first | omega | exact absurd w.2.1 (by assumption))]; done))) | exact congrArg (fun z : Int => (vL z : AV)) (by first | rfl | omega | (unfold nrS; first | (rw [if_pos (by simp only [befP, Int.toNat_natCast] at *; first | omega | exact ⟨by omega, by assumption, by omega, by omega⟩)]; done) | (rw [if_neg (by intro w; simp only [befP, Int.toNat_natCast] at *; first | omega | exact absurd w.2.1 (by assumption))]; done))))
              · refine AW.iload (pc' := 101) dX12_records_99 rfl ?_
                refine AW.istore6 (pc' := 103) dX12_records_101 (by decide) rfl ?_
                refine AW.iinc7 (pc' := 106) dX12_records_103 (by decide) rfl ?_
                refine AW.goto (tgt := 37) dX12_records_106 ?_
                exact AW.weak (ih (k + 1) ((nrS h c lim last) k acc) (by omega) (by first | omega | (have := nrS_in (h := h) (c := c) (lim := lim) (last := last) i0; omega)) kk) (by (repeat' first | exact LSub.e | refine LSub.n ?_ | refine LSub.c ?_ ?_) <;> first | rfl | exact congrArg Sum.inl (by first | rfl | omega | (unfold nrS; first | (rw [if_pos (by simp only [befP, Int.toNat_natCast] at *; first | omega | exact ⟨by omega, by assumption, by omega, by omega⟩)]; done) | (rw [if_neg (by intro w; simp only [befP, Int.toNat_natCast] at *; first | omega | exact absurd w.2.1 (by assumption))]; done))) | exact congrArg (fun z : Int => (vL z : AV)) (by first | rfl | omega | (unfold nrS; first | (rw [if_pos (by simp only [befP, Int.toNat_natCast] at *; first | omega | exact ⟨by omega, by assumption, by omega, by omega⟩)]; done) | (rw [if_neg (by intro w; simp only [befP, Int.toNat_natCast] at *; first | omega | exact absurd w.2.1 (by assumption))]; done))))
          · refine AW.aload_n (pc' := 73) dX12_records_72 rfl ?_
            refine AW.iload (pc' := 75) dX12_records_73 rfl ?_
            refine AW.iload (pc' := 77) dX12_records_75 rfl ?_
            refine AW.invV2 (pc' := 80) dX12_records_77 mlX12_331 mX12_isBefore ly_57 rfl (c_X12_isBefore (dep := dep - 1) (by first | assumption | omega | (constructor <;> omega) | (simp only [Int.toNat_natCast]; omega) | exact b2_in _) (by first | assumption | omega | (constructor <;> omega) | (simp only [Int.toNat_natCast]; omega) | exact b2_in _)) ?_
            try simp only [Int.toNat_natCast]
            refine AW.ifb_eq (tgt := 103) (pc' := 83) dX12_records_80 (fun c80 => ?_) (fun c80 => ?_)
            · refine AW.iinc7 (pc' := 106) dX12_records_103 (by decide) rfl ?_
              refine AW.goto (tgt := 37) dX12_records_106 ?_
              exact AW.weak (ih (k + 1) ((nrS h c lim last) k acc) (by omega) (by first | omega | (have := nrS_in (h := h) (c := c) (lim := lim) (last := last) i0; omega)) kk) (by (repeat' first | exact LSub.e | refine LSub.n ?_ | refine LSub.c ?_ ?_) <;> first | rfl | exact congrArg Sum.inl (by first | rfl | omega | (unfold nrS; first | (rw [if_pos (by simp only [befP, Int.toNat_natCast] at *; first | omega | exact ⟨by omega, by assumption, by omega, by omega⟩)]; done) | (rw [if_neg (by intro w; simp only [befP, Int.toNat_natCast] at *; first | omega | exact absurd w.2.1 (by assumption))]; done))) | exact congrArg (fun z : Int => (vL z : AV)) (by first | rfl | omega | (unfold nrS; first | (rw [if_pos (by simp only [befP, Int.toNat_natCast] at *; first | omega | exact ⟨by omega, by assumption, by omega, by omega⟩)]; done) | (rw [if_neg (by intro w; simp only [befP, Int.toNat_natCast] at *; first | omega | exact absurd w.2.1 (by assumption))]; done))))
            · refine AW.iload (pc' := 85) dX12_records_83 rfl ?_
              refine AW.if_lt (tgt := 99) (pc' := 88) dX12_records_85 (by first | assumption | omega | (constructor <;> omega) | (simp only [Int.toNat_natCast]; omega) | exact b2_in _) (fun c85 => ?_) (fun c85 => ?_)
              · refine AW.iload (pc' := 101) dX12_records_99 rfl ?_
                refine AW.istore6 (pc' := 103) dX12_records_101 (by decide) rfl ?_
                refine AW.iinc7 (pc' := 106) dX12_records_103 (by decide) rfl ?_
                refine AW.goto (tgt := 37) dX12_records_106 ?_
                exact AW.weak (ih (k + 1) ((nrS h c lim last) k acc) (by omega) (by first | omega | (have := nrS_in (h := h) (c := c) (lim := lim) (last := last) i0; omega)) kk) (by (repeat' first | exact LSub.e | refine LSub.n ?_ | refine LSub.c ?_ ?_) <;> first | rfl | exact congrArg Sum.inl (by first | rfl | omega | (unfold nrS; first | (rw [if_pos (by simp only [befP, Int.toNat_natCast] at *; first | omega | exact ⟨by omega, by assumption, by omega, by omega⟩)]; done) | (rw [if_neg (by intro w; simp only [befP, Int.toNat_natCast] at *; first | omega | exact absurd w.2.1 (by assumption))]; done))) | exact congrArg (fun z : Int => (vL z : AV)) (by first | rfl | omega | (unfold nrS; first | (rw [if_pos (by simp only [befP, Int.toNat_natCast] at *; first | omega | exact ⟨by omega, by assumption, by omega, by omega⟩)]; done) | (rw [if_neg (by intro w; simp only [befP, Int.toNat_natCast] at *; first | omega | exact absurd w.2.1 (by assumption))]; done))))
              · refine AW.aload_n (pc' := 89) dX12_records_88 rfl ?_
                refine AW.iload (pc' := 91) dX12_records_89 rfl ?_
                refine AW.iload (pc' := 93) dX12_records_91 rfl ?_
                refine AW.invV2 (pc' := 96) dX12_records_93 mlX12_331 mX12_isBefore ly_57 rfl (c_X12_isBefore (dep := dep - 1) (by first | assumption | omega | (constructor <;> omega) | (simp only [Int.toNat_natCast]; omega) | exact b2_in _) (by first | assumption | omega | (constructor <;> omega) | (simp only [Int.toNat_natCast]; omega) | exact b2_in _)) ?_
                try simp only [Int.toNat_natCast]
                refine AW.ifb_eq (tgt := 103) (pc' := 99) dX12_records_96 (fun c96 => ?_) (fun c96 => ?_)
                · refine AW.iinc7 (pc' := 106) dX12_records_103 (by decide) rfl ?_
                  refine AW.goto (tgt := 37) dX12_records_106 ?_
                  exact AW.weak (ih (k + 1) ((nrS h c lim last) k acc) (by omega) (by first | omega | (have := nrS_in (h := h) (c := c) (lim := lim) (last := last) i0; omega)) kk) (by (repeat' first | exact LSub.e | refine LSub.n ?_ | refine LSub.c ?_ ?_) <;> first | rfl | exact congrArg Sum.inl (by first | rfl | omega | (unfold nrS; first | (rw [if_pos (by simp only [befP, Int.toNat_natCast] at *; first | omega | exact ⟨by omega, by assumption, by omega, by omega⟩)]; done) | (rw [if_neg (by intro w; simp only [befP, Int.toNat_natCast] at *; first | omega | exact absurd w.2.1 (by assumption))]; done))) | exact congrArg (fun z : Int => (vL z : AV)) (by first | rfl | omega | (unfold nrS; first | (rw [if_pos (by simp only [befP, Int.toNat_natCast] at *; first | omega | exact ⟨by omega, by assumption, by omega, by omega⟩)]; done) | (rw [if_neg (by intro w; simp only [befP, Int.toNat_natCast] at *; first | omega | exact absurd w.2.1 (by assumption))]; done))))
                · refine AW.iload (pc' := 101) dX12_records_99 rfl ?_
                  refine AW.istore6 (pc' := 103) dX12_records_101 (by decide) rfl ?_
                  refine AW.iinc7 (pc' := 106) dX12_records_103 (by decide) rfl ?_
                  refine AW.goto (tgt := 37) dX12_records_106 ?_
                  exact AW.weak (ih (k + 1) ((nrS h c lim last) k acc) (by omega) (by first | omega | (have := nrS_in (h := h) (c := c) (lim := lim) (last := last) i0; omega)) kk) (by (repeat' first | exact LSub.e | refine LSub.n ?_ | refine LSub.c ?_ ?_) <;> first | rfl | exact congrArg Sum.inl (by first | rfl | omega | (unfold nrS; first | (rw [if_pos (by simp only [befP, Int.toNat_natCast] at *; first | omega | exact ⟨by omega, by assumption, by omega, by omega⟩)]; done) | (rw [if_neg (by intro w; simp only [befP, Int.toNat_natCast] at *; first | omega | exact absurd w.2.1 (by assumption))]; done))) | exact congrArg (fun z : Int => (vL z : AV)) (by first | rfl | omega | (unfold nrS; first | (rw [if_pos (by simp only [befP, Int.toNat_natCast] at *; first | omega | exact ⟨by omega, by assumption, by omega, by omega⟩)]; done) | (rw [if_neg (by intro w; simp only [befP, Int.toNat_natCast] at *; first | omega | exact absurd w.2.1 (by assumption))]; done))))
set_option maxRecDepth 100000 in
set_option maxHeartbeats 4000000 in
theorem lp_X12_records {K : KT}  {dep : Nat} {h : Hp} {c lim i : Int} (hI : IMa h) (qc : inI c) (qb : inI lim) (qi : inI i) (hd : 2 ≤ dep) : ∀ (f : Nat) (n2 last : Int), cnA (h 68) (h 69) last (h 57 16).toNat < f → 0 ≤ n2 → n2 + f ≤ 1000 → -1 ≤ last ∧ last < h 57 16 → AW K (XM K (some (vI (rcF h c lim i f n2 last))) h) RX12 cX12_records 8 (some .int) dep 31 [some (vR 57), some (vI (c)), some (vI (lim)), some (vI (i)), some (vI (n2)), some (vI (last)), none, none] [] h := by
  have g6 := hI.2.2.2.1
  have g7 := hI.2.2.2.2.1
  have g8 := hI.2.1.2.1
  intro f
  induction f with
  | zero =>
    intro n2 last hf h0 h1 ql
    refine AW.iconst (pc' := 32) dX12_records_31 ?_
    omega
  | succ f ih =>
    intro n2 last hf h0 h1 ql
    refine AW.iconst (pc' := 32) dX12_records_31 ?_
    refine AW.istore6 (pc' := 34) dX12_records_32 (by decide) rfl ?_
    refine AW.iconst (pc' := 35) dX12_records_34 ?_
    refine AW.istore7 (pc' := 37) dX12_records_35 (by decide) rfl ?_
    refine AW.weak (lp_X12_recordsI hI (c := c) (lim := lim) (i := i) (n2 := n2) qc qb ql hd (h 57 16).toNat 0 (-1) (by omega) (Or.inl rfl) ?_) (by (repeat' first | exact LSub.e | refine LSub.n ?_ | refine LSub.c ?_ ?_) <;> first | rfl | exact congrArg Sum.inl (by first | rfl | omega | omega) | exact congrArg (fun z : Int => (vL z : AV)) (by first | rfl | omega | omega))
    have nr := nrL_in (h := h) (c := c) (lim := lim) (last := last) (h 57 16).toNat 0 (-1) (Or.inl rfl)
    have na := nrL_aft (h := h) (c := c) (lim := lim) (last := last) (h 57 16).toNat 0 (-1) (Or.inl (by decide))
    generalize hx : lp (nrS h c lim last) (h 57 16).toNat 0 (-1) = nx at nr na ⊢
    refine AW.iload (pc' := 111) dX12_records_109 rfl ?_
    refine AW.if_ge (tgt := 126) (pc' := 114) dX12_records_111 (by first | assumption | omega | (constructor <;> omega) | (simp only [Int.toNat_natCast]; omega) | exact b2_in _) (fun c111 => ?_) (fun c111 => ?_)
    · refine AW.iload (pc' := 128) dX12_records_126 rfl ?_
      refine AW.iload_n (pc' := 129) dX12_records_128 rfl ?_
      refine AW.icmp_ne (tgt := 135) (pc' := 132) dX12_records_129 (by first | assumption | omega | (constructor <;> omega) | (simp only [Int.toNat_natCast]; omega) | exact b2_in _) (by first | assumption | omega | (constructor <;> omega) | (simp only [Int.toNat_natCast]; omega) | exact b2_in _) (fun c129 => ?_) (fun c129 => ?_)
      · refine AW.iinc4 (pc' := 138) dX12_records_135 (by decide) rfl ?_
        refine AW.iload (pc' := 140) dX12_records_138 rfl ?_
        refine AW.istore5 (pc' := 142) dX12_records_140 (by decide) rfl ?_
        refine AW.goto (tgt := 31) dX12_records_142 ?_
        have cm := cnA_mono (ye := h 68) (ti := h 69) (last := last) (nx := nx) (by omega) (na.resolve_left (by omega)) (h 57 16).toNat
        have cm2 := cm.2 (by omega)
        have z : rcF h c lim i (f + 1) n2 last = rcF h c lim i f (n2 + 1) nx := by
          conv => lhs; unfold rcF
          simp only [nrF, hx]
          rw [if_neg (by omega), if_neg (by omega)]
        rw [z]
        exact AW.weak (ih (n2 + 1) nx (by omega) (by omega) (by omega) (by omega)) (by (repeat' first | exact LSub.e | refine LSub.n ?_ | refine LSub.c ?_ ?_) <;> first | rfl | exact congrArg Sum.inl (by first | rfl | omega | omega) | exact congrArg (fun z : Int => (vL z : AV)) (by first | rfl | omega | omega))
      · refine AW.iload (pc' := 134) dX12_records_132 rfl ?_
        refine AW.iret dX12_records_134 ?_ ?_
        · refine congrArg (fun z : Int => (some (vI z) : Option AV)) ?_
          unfold rcF
          simp only [nrF, hx]
          first | (rw [if_pos (by omega), if_pos (by omega)]; done) | (rw [if_pos (by omega), if_neg (by omega)]; done) | (rw [if_neg (by omega), if_pos (by omega)]; done)
        · rfl
    · refine AW.iload_n (pc' := 115) dX12_records_114 rfl ?_
      refine AW.iconst (pc' := 116) dX12_records_115 ?_
      refine AW.icmp_ne (tgt := 124) (pc' := 119) dX12_records_116 (by first | assumption | omega | (constructor <;> omega) | (simp only [Int.toNat_natCast]; omega) | exact b2_in _) (by first | assumption | omega | (constructor <;> omega) | (simp only [Int.toNat_natCast]; omega) | exact b2_in _) (fun c116 => ?_) (fun c116 => ?_)
      · refine AW.iconst (pc' := 125) dX12_records_124 ?_
        refine AW.iret dX12_records_125 ?_ ?_
        · refine congrArg (fun z : Int => (some (vI z) : Option AV)) ?_
          unfold rcF
          simp only [nrF, hx]
          first | (rw [if_pos (by omega), if_pos (by omega)]; done) | (rw [if_pos (by omega), if_neg (by omega)]; done) | (rw [if_neg (by omega), if_pos (by omega)]; done)
        · rfl
      · refine AW.iload (pc' := 121) dX12_records_119 rfl ?_
        refine AW.goto (tgt := 125) dX12_records_121 ?_
        refine AW.iret dX12_records_125 ?_ ?_
        · refine congrArg (fun z : Int => (some (vI z) : Option AV)) ?_
          unfold rcF
          simp only [nrF, hx]
          first | (rw [if_pos (by omega), if_pos (by omega)]; done) | (rw [if_pos (by omega), if_neg (by omega)]; done) | (rw [if_neg (by omega), if_pos (by omega)]; done)
        · rfl
set_option maxRecDepth 100000 in
set_option maxHeartbeats 4000000 in
theorem c_X12_records {K : KT} {dep : Nat} {h : Hp} {a b i : Int} (hd : 2 ≤ dep) (hI : IMa h) (q1 : inI a) (q2 : inI b) (q3 : inI i) : AM K yX12_records cX12_records 8 (some .int) dep [vR 57, vI a, vI b, vI i] h (some (vI (if ¬ ((0 ≤ a ∧ a < h 57 15) ∧ (0 ≤ b ∧ b ≤ 99) ∧ -1 ≤ i) then -1 else rcF h a b i 121 0 (-1)))) (h) := by
  refine AM.of (own := RX12) (ls := [some (vR 57), some (vI a), some (vI b), some (vI i), none, none, none, none]) rfl (by decide +kernel) (by exact Nat.le_of_ble_eq_true rfl) rfl (fun hO => ?_)
  have g6 := hI.2.2.2.1
  have g7 := hI.2.2.2.2.1
  have g8 := hI.2.1.2.1
  refine AW.aload_n (pc' := 1) dX12_records_0 rfl ?_
  refine AW.iload_n (pc' := 2) dX12_records_1 rfl ?_
  refine AW.invV1 (pc' := 5) dX12_records_2 mlX12_135 mX12_isCourse ly_57 rfl (c_X12_isCourse (dep := dep - 1) (by first | assumption | omega | (constructor <;> omega) | (simp only [Int.toNat_natCast]; omega) | exact b2_in _)) ?_
  refine AW.ifb_eq (tgt := 23) (pc' := 8) dX12_records_5 (fun c5 => ?_) (fun c5 => ?_)
  · refine AW.iconst (pc' := 24) dX12_records_23 ?_
    refine AW.iret dX12_records_24 ?_ ?_
    all_goals first | rfl | exact congrArg (fun z : Int => (some (vI z) : Option AV)) (b2_t (by omega)) | exact congrArg (fun z : Int => (some (vI z) : Option AV)) (b2_f (by omega)) | ((repeat' split) <;> first | rfl | omega) | (refine congrArg (fun z : Int => (some (vI z) : Option AV)) ?_; (repeat' split) <;> first | rfl | omega)
  · refine AW.iload_n (pc' := 9) dX12_records_8 rfl ?_
    refine AW.iconst (pc' := 10) dX12_records_9 ?_
    refine AW.bipush (pc' := 12) dX12_records_10 (by decide) ?_
    refine AW.invS3 (pc' := 15) dX12_records_12 mlX12_117 mX12_isIn (c_X12_isIn (dep := dep - 1) (by first | assumption | omega | (constructor <;> omega) | (simp only [Int.toNat_natCast]; omega) | exact b2_in _) (by first | assumption | omega | (constructor <;> omega) | (simp only [Int.toNat_natCast]; omega) | exact b2_in _) (by first | assumption | omega | (constructor <;> omega) | (simp only [Int.toNat_natCast]; omega) | exact b2_in _)) ?_
    refine AW.ifb_eq (tgt := 23) (pc' := 18) dX12_records_15 (fun c15 => ?_) (fun c15 => ?_)
    · refine AW.iconst (pc' := 24) dX12_records_23 ?_
      refine AW.iret dX12_records_24 ?_ ?_
      all_goals first | rfl | exact congrArg (fun z : Int => (some (vI z) : Option AV)) (b2_t (by omega)) | exact congrArg (fun z : Int => (some (vI z) : Option AV)) (b2_f (by omega)) | ((repeat' split) <;> first | rfl | omega) | (refine congrArg (fun z : Int => (some (vI z) : Option AV)) ?_; (repeat' split) <;> first | rfl | omega)
    · refine AW.iload_n (pc' := 19) dX12_records_18 rfl ?_
      refine AW.iconst (pc' := 20) dX12_records_19 ?_
      refine AW.icmp_ge (tgt := 25) (pc' := 23) dX12_records_20 (by first | assumption | omega | (constructor <;> omega) | (simp only [Int.toNat_natCast]; omega) | exact b2_in _) (by first | assumption | omega | (constructor <;> omega) | (simp only [Int.toNat_natCast]; omega) | exact b2_in _) (fun c20 => ?_) (fun c20 => ?_)
      · refine AW.iconst (pc' := 26) dX12_records_25 ?_
        refine AW.istore4 (pc' := 28) dX12_records_26 (by decide) rfl ?_
        refine AW.iconst (pc' := 29) dX12_records_28 ?_
        refine AW.istore5 (pc' := 31) dX12_records_29 (by decide) rfl ?_
        have cl := cnA_le (h 68) (h 69) (-1) (h 57 16).toNat
        rw [if_neg (by omega)]
        exact AW.weak (lp_X12_records hI (by omega) (by omega) (by omega) hd 121 0 (-1) (by omega) (by omega) (by omega) (by omega)) (by (repeat' first | exact LSub.e | refine LSub.n ?_ | refine LSub.c ?_ ?_) <;> first | rfl | exact congrArg Sum.inl (by first | rfl | omega | omega) | exact congrArg (fun z : Int => (vL z : AV)) (by first | rfl | omega | omega))
      · refine AW.iconst (pc' := 24) dX12_records_23 ?_
        refine AW.iret dX12_records_24 ?_ ?_
        all_goals first | rfl | exact congrArg (fun z : Int => (some (vI z) : Option AV)) (b2_t (by omega)) | exact congrArg (fun z : Int => (some (vI z) : Option AV)) (b2_f (by omega)) | ((repeat' split) <;> first | rfl | omega) | (refine congrArg (fun z : Int => (some (vI z) : Option AV)) ?_; (repeat' split) <;> first | rfl | omega)
