/-! acts: the class -/
def xorI (a b : Int) : Int := (Int32.ofInt a ^^^ Int32.ofInt b).toInt
def abvF (k : Int) : Int := tAbove.getD k.toNat 0
def ownF (k act : Int) : Int := tOwn.getD (4 * k + act).toNat 0
theorem abvF_all : ∀ i : Fin 8, -1 ≤ tAbove.getD i.val 0 ∧ tAbove.getD i.val 0 ≤ 7 := by decide +kernel
theorem ownF_all : ∀ i : Fin 32, 0 ≤ tOwn.getD i.val 0 ∧ tOwn.getD i.val 0 ≤ 81 := by decide +kernel
theorem abvF_in {k : Int} (h0 : 0 ≤ k) (h1 : k < 8) : -1 ≤ abvF k ∧ abvF k ≤ 7 := abvF_all ⟨k.toNat, by omega⟩
theorem ownF_in {k act : Int} (h0 : 0 ≤ k) (h1 : k < 8) (a0 : 0 ≤ act) (a1 : act ≤ 3) : 0 ≤ ownF k act ∧ ownF k act ≤ 81 := ownF_all ⟨(4 * k + act).toNat, by omega⟩
def woF : Nat → Int → Int → Int
  | 0, k, _ => k
  | n + 1, k, act => if (0 < k ∧ k < 8) ∧ ownF k act = 0 then woF n (abvF k) act else k
theorem woF_in (act : Int) : ∀ (n : Nat) (k : Int), -1 ≤ k → k ≤ 7 → -1 ≤ woF n k act ∧ woF n k act ≤ 7
  | 0, k, h0, h1 => ⟨h0, h1⟩
  | n + 1, k, h0, h1 => by
    unfold woF
    split
    · have := abvF_in (k := k) (by omega) (by omega)
      exact woF_in act n _ this.1 this.2
    · exact ⟨h0, h1⟩
def iuF : Nat → Int → Int → Int
  | 0, k, _ => k
  | n + 1, k, top => if k ≠ top ∧ 0 ≤ k ∧ k < 8 then iuF n (abvF k) top else k
set_option maxRecDepth 100000 in
set_option maxHeartbeats 4000000 in
theorem lp_X0_withOwn {K : KT}  {dep : Nat} {h : Hp} {kd act : Int} (qa : 0 ≤ act ∧ act ≤ 3)  : ∀ (n k : Nat) (c : Int), k + n = 8 → -1 ≤ c ∧ c ≤ 7 → AW K (XM K (some (vI (woF n c act))) h) RX0 cX0_withOwn 4 (some .int) dep 4 [some (vI (kd)), some (vI (act)), some (vI (c)), some (vI ((k : Int)))] [] h := by
  intro n
  induction n with
  | zero =>
    intro k c hk hc
    refine AW.iload_n (pc' := 5) dX0_withOwn_4 rfl ?_
    refine AW.bipush (pc' := 7) dX0_withOwn_5 (by decide) ?_
    refine AW.icmp_ge (tgt := 44) (pc' := 10) dX0_withOwn_7 (by first | assumption | omega | (constructor <;> omega) | (simp only [Int.toNat_natCast]; omega) | exact b2_in _) (by first | assumption | omega | (constructor <;> omega) | (simp only [Int.toNat_natCast]; omega) | exact b2_in _) (fun c7 => ?_) (fun c7 => ?_)
    · refine AW.iload_n (pc' := 45) dX0_withOwn_44 rfl ?_
      refine AW.iret dX0_withOwn_45 ?_ ?_
      · rfl
      · rfl
    · omega
  | succ n ih =>
    intro k c hk hc
    have ob : 0 ≤ c → 0 ≤ ownF c act ∧ ownF c act ≤ 81 := fun z => ownF_in z (by omega) qa.1 qa.2
    have ab : 0 ≤ c → -1 ≤ abvF c ∧ abvF c ≤ 7 := fun z => abvF_in z (by omega)
    refine AW.iload_n (pc' := 5) dX0_withOwn_4 rfl ?_
    refine AW.bipush (pc' := 7) dX0_withOwn_5 (by decide) ?_
    refine AW.icmp_ge (tgt := 44) (pc' := 10) dX0_withOwn_7 (by first | assumption | omega | (constructor <;> omega) | (simp only [Int.toNat_natCast]; omega) | exact b2_in _) (by first | assumption | omega | (constructor <;> omega) | (simp only [Int.toNat_natCast]; omega) | exact b2_in _) (fun c7 => ?_) (fun c7 => ?_)
    · omega
    · refine AW.iload_n (pc' := 11) dX0_withOwn_10 rfl ?_
      refine AW.if_le (tgt := 44) (pc' := 14) dX0_withOwn_11 (by first | assumption | omega | (constructor <;> omega) | (simp only [Int.toNat_natCast]; omega) | exact b2_in _) (fun c11 => ?_) (fun c11 => ?_)
      · refine AW.iload_n (pc' := 45) dX0_withOwn_44 rfl ?_
        refine AW.iret dX0_withOwn_45 ?_ ?_
        · refine congrArg (fun z : Int => (some (vI z) : Option AV)) ?_
          unfold woF
          rw [if_neg (by omega)]
        · rfl
      · refine AW.iload_n (pc' := 15) dX0_withOwn_14 rfl ?_
        refine AW.bipush (pc' := 17) dX0_withOwn_15 (by decide) ?_
        refine AW.icmp_ge (tgt := 44) (pc' := 20) dX0_withOwn_17 (by first | assumption | omega | (constructor <;> omega) | (simp only [Int.toNat_natCast]; omega) | exact b2_in _) (by first | assumption | omega | (constructor <;> omega) | (simp only [Int.toNat_natCast]; omega) | exact b2_in _) (fun c17 => ?_) (fun c17 => ?_)
        · refine AW.iload_n (pc' := 45) dX0_withOwn_44 rfl ?_
          refine AW.iret dX0_withOwn_45 ?_ ?_
          · refine congrArg (fun z : Int => (some (vI z) : Option AV)) ?_
            unfold woF
            rw [if_neg (by omega)]
          · rfl
        · have ob1 := ob (by omega)
          have ab1 := ab (by omega)
          refine AW.ownS (pc' := 23) dX0_withOwn_20 lkX0_25 ?_
          refine AW.iconst (pc' := 24) dX0_withOwn_23 ?_
          refine AW.iload_n (pc' := 25) dX0_withOwn_24 rfl ?_
          refine AW.imul (pc' := 26) dX0_withOwn_25 ?_
          refine AW.iload_n (pc' := 27) dX0_withOwn_26 rfl ?_
          refine AW.iadd (pc' := 28) dX0_withOwn_27 ?_
          refine AW.ialdO (pc' := 29) dX0_withOwn_28 (by first | assumption | omega | (constructor <;> omega) | (simp only [Int.toNat_natCast]; omega) | exact b2_in _) (by first | assumption | omega | (constructor <;> omega) | (simp only [Int.toNat_natCast]; omega) | exact b2_in _) rfl ?_
          rw [show tOwn.getD (4 * c + act).toNat 0 = ownF c act from rfl]
          refine AW.if_ne (tgt := 44) (pc' := 32) dX0_withOwn_29 (by first | assumption | omega | (constructor <;> omega) | (simp only [Int.toNat_natCast]; omega) | exact b2_in _) (fun c29 => ?_) (fun c29 => ?_)
          · refine AW.iload_n (pc' := 45) dX0_withOwn_44 rfl ?_
            refine AW.iret dX0_withOwn_45 ?_ ?_
            · refine congrArg (fun z : Int => (some (vI z) : Option AV)) ?_
              unfold woF
              rw [if_neg (by omega)]
            · rfl
          · refine AW.above (pc' := 35) dX0_withOwn_32 lkX0_22 ?_
            refine AW.iload_n (pc' := 36) dX0_withOwn_35 rfl ?_
            refine AW.ialdA (pc' := 37) dX0_withOwn_36 (by first | assumption | omega | (constructor <;> omega) | (simp only [Int.toNat_natCast]; omega) | exact b2_in _) (by first | assumption | omega | (constructor <;> omega) | (simp only [Int.toNat_natCast]; omega) | exact b2_in _) rfl ?_
            rw [show tAbove.getD c.toNat 0 = abvF c from rfl]
            refine AW.istore2n (pc' := 38) dX0_withOwn_37 (by decide) rfl ?_
            refine AW.iinc3 (pc' := 41) dX0_withOwn_38 (by decide) rfl ?_
            refine AW.goto (tgt := 4) dX0_withOwn_41 ?_
            have z : woF (n + 1) c act = woF n (abvF c) act := by
              conv => lhs; unfold woF
              rw [if_pos (by omega)]
            rw [z]
            exact AW.weak (ih (k + 1) (abvF c) (by omega) (by omega)) (by (repeat' first | exact LSub.e | refine LSub.n ?_ | refine LSub.c ?_ ?_) <;> first | rfl | exact congrArg Sum.inl (by first | rfl | omega | (push_cast; omega)) | exact congrArg (fun z : Int => (vL z : AV)) (by first | rfl | omega | (push_cast; omega)))
set_option maxRecDepth 100000 in
set_option maxHeartbeats 4000000 in
theorem c_X0_withOwn {K : KT} {dep : Nat} {h : Hp} {a b : Int}  (q0 : -1 ≤ a ∧ a ≤ 7) (q1 : 0 ≤ b ∧ b ≤ 3) : AM K yX0_withOwn cX0_withOwn 4 (some .int) dep [vI a, vI b] h (some (vI (woF 8 a b))) (h) := by
  refine AM.of (own := RX0) (ls := [some (vI a), some (vI b), none, none]) rfl (by decide +kernel) (by exact Nat.le_of_ble_eq_true rfl) rfl (fun hO => ?_)
  refine AW.iload_n (pc' := 1) dX0_withOwn_0 rfl ?_
  refine AW.istore2n (pc' := 2) dX0_withOwn_1 (by decide) rfl ?_
  refine AW.iconst (pc' := 3) dX0_withOwn_2 ?_
  refine AW.istore3n (pc' := 4) dX0_withOwn_3 (by decide) rfl ?_
  exact AW.weak (lp_X0_withOwn (dep := dep) q1 8 0 a rfl q0) (by (repeat' first | exact LSub.e | refine LSub.n ?_ | refine LSub.c ?_ ?_) <;> first | rfl | exact congrArg Sum.inl (by first | rfl | omega | omega) | exact congrArg (fun z : Int => (vL z : AV)) (by first | rfl | omega | omega))
set_option maxRecDepth 100000 in
set_option maxHeartbeats 4000000 in
theorem lp_X0_isUnder {K : KT}  {dep : Nat} {h : Hp} {kd top : Int} (qa : inI top)  : ∀ (n k : Nat) (c : Int), k + n = 8 → -1 ≤ c ∧ c ≤ 7 → AW K (XM K (some (vI (b2 (iuF n c top = top)))) h) RX0 cX0_isUnder 4 (some .boolean) dep 4 [some (vI (kd)), some (vI (top)), some (vI (c)), some (vI ((k : Int)))] [] h := by
  intro n
  induction n with
  | zero =>
    intro k c hk hc
    refine AW.iload_n (pc' := 5) dX0_isUnder_4 rfl ?_
    refine AW.bipush (pc' := 7) dX0_isUnder_5 (by decide) ?_
    refine AW.icmp_ge (tgt := 37) (pc' := 10) dX0_isUnder_7 (by first | assumption | omega | (constructor <;> omega) | (simp only [Int.toNat_natCast]; omega) | exact b2_in _) (by first | assumption | omega | (constructor <;> omega) | (simp only [Int.toNat_natCast]; omega) | exact b2_in _) (fun c7 => ?_) (fun c7 => ?_)
    · refine AW.iload_n (pc' := 38) dX0_isUnder_37 rfl ?_
      refine AW.iload_n (pc' := 39) dX0_isUnder_38 rfl ?_
      refine AW.icmp_ne (tgt := 46) (pc' := 42) dX0_isUnder_39 (by first | assumption | omega | (constructor <;> omega) | (simp only [Int.toNat_natCast]; omega) | exact b2_in _) (by first | assumption | omega | (constructor <;> omega) | (simp only [Int.toNat_natCast]; omega) | exact b2_in _) (fun c39 => ?_) (fun c39 => ?_)
      · refine AW.iconst (pc' := 47) dX0_isUnder_46 ?_
        refine AW.zret dX0_isUnder_47 ?_ ?_ (by first | exact Or.inl rfl | exact Or.inr rfl | exact b2_01 _ | assumption | (subst_vars; omega))
        · refine congrArg (fun z : Int => (some (vI z) : Option AV)) ?_
          unfold iuF b2
          first | (rw [if_pos (by omega)]; done) | (rw [if_neg (by omega)])
        · rfl
      · refine AW.iconst (pc' := 43) dX0_isUnder_42 ?_
        refine AW.goto (tgt := 47) dX0_isUnder_43 ?_
        refine AW.zret dX0_isUnder_47 ?_ ?_ (by first | exact Or.inl rfl | exact Or.inr rfl | exact b2_01 _ | assumption | (subst_vars; omega))
        · refine congrArg (fun z : Int => (some (vI z) : Option AV)) ?_
          unfold iuF b2
          first | (rw [if_pos (by omega)]; done) | (rw [if_neg (by omega)])
        · rfl
    · omega
  | succ n ih =>
    intro k c hk hc
    have ab : 0 ≤ c → -1 ≤ abvF c ∧ abvF c ≤ 7 := fun z => abvF_in z (by omega)
    refine AW.iload_n (pc' := 5) dX0_isUnder_4 rfl ?_
    refine AW.bipush (pc' := 7) dX0_isUnder_5 (by decide) ?_
    refine AW.icmp_ge (tgt := 37) (pc' := 10) dX0_isUnder_7 (by first | assumption | omega | (constructor <;> omega) | (simp only [Int.toNat_natCast]; omega) | exact b2_in _) (by first | assumption | omega | (constructor <;> omega) | (simp only [Int.toNat_natCast]; omega) | exact b2_in _) (fun c7 => ?_) (fun c7 => ?_)
    · omega
    · refine AW.iload_n (pc' := 11) dX0_isUnder_10 rfl ?_
      refine AW.iload_n (pc' := 12) dX0_isUnder_11 rfl ?_
      refine AW.icmp_eq (tgt := 37) (pc' := 15) dX0_isUnder_12 (by first | assumption | omega | (constructor <;> omega) | (simp only [Int.toNat_natCast]; omega) | exact b2_in _) (by first | assumption | omega | (constructor <;> omega) | (simp only [Int.toNat_natCast]; omega) | exact b2_in _) (fun c12 => ?_) (fun c12 => ?_)
      · refine AW.iload_n (pc' := 38) dX0_isUnder_37 rfl ?_
        refine AW.iload_n (pc' := 39) dX0_isUnder_38 rfl ?_
        refine AW.icmp_ne (tgt := 46) (pc' := 42) dX0_isUnder_39 (by first | assumption | omega | (constructor <;> omega) | (simp only [Int.toNat_natCast]; omega) | exact b2_in _) (by first | assumption | omega | (constructor <;> omega) | (simp only [Int.toNat_natCast]; omega) | exact b2_in _) (fun c39 => ?_) (fun c39 => ?_)
        · refine AW.iconst (pc' := 47) dX0_isUnder_46 ?_
          refine AW.zret dX0_isUnder_47 ?_ ?_ (by first | exact Or.inl rfl | exact Or.inr rfl | exact b2_01 _ | assumption | (subst_vars; omega))
          · refine congrArg (fun z : Int => (some (vI z) : Option AV)) ?_
            unfold iuF
            rw [if_neg (by omega)]
            first | (rw [b2_t (by omega)]; done) | (rw [b2_f (by omega)])
          · rfl
        · refine AW.iconst (pc' := 43) dX0_isUnder_42 ?_
          refine AW.goto (tgt := 47) dX0_isUnder_43 ?_
          refine AW.zret dX0_isUnder_47 ?_ ?_ (by first | exact Or.inl rfl | exact Or.inr rfl | exact b2_01 _ | assumption | (subst_vars; omega))
          · refine congrArg (fun z : Int => (some (vI z) : Option AV)) ?_
            unfold iuF
            rw [if_neg (by omega)]
            first | (rw [b2_t (by omega)]; done) | (rw [b2_f (by omega)])
          · rfl
      · refine AW.iload_n (pc' := 16) dX0_isUnder_15 rfl ?_
        refine AW.if_lt (tgt := 37) (pc' := 19) dX0_isUnder_16 (by first | assumption | omega | (constructor <;> omega) | (simp only [Int.toNat_natCast]; omega) | exact b2_in _) (fun c16 => ?_) (fun c16 => ?_)
        · refine AW.iload_n (pc' := 38) dX0_isUnder_37 rfl ?_
          refine AW.iload_n (pc' := 39) dX0_isUnder_38 rfl ?_
          refine AW.icmp_ne (tgt := 46) (pc' := 42) dX0_isUnder_39 (by first | assumption | omega | (constructor <;> omega) | (simp only [Int.toNat_natCast]; omega) | exact b2_in _) (by first | assumption | omega | (constructor <;> omega) | (simp only [Int.toNat_natCast]; omega) | exact b2_in _) (fun c39 => ?_) (fun c39 => ?_)
          · refine AW.iconst (pc' := 47) dX0_isUnder_46 ?_
            refine AW.zret dX0_isUnder_47 ?_ ?_ (by first | exact Or.inl rfl | exact Or.inr rfl | exact b2_01 _ | assumption | (subst_vars; omega))
            · refine congrArg (fun z : Int => (some (vI z) : Option AV)) ?_
              unfold iuF
              rw [if_neg (by omega)]
              first | (rw [b2_t (by omega)]; done) | (rw [b2_f (by omega)])
            · rfl
          · refine AW.iconst (pc' := 43) dX0_isUnder_42 ?_
            refine AW.goto (tgt := 47) dX0_isUnder_43 ?_
            refine AW.zret dX0_isUnder_47 ?_ ?_ (by first | exact Or.inl rfl | exact Or.inr rfl | exact b2_01 _ | assumption | (subst_vars; omega))
            · refine congrArg (fun z : Int => (some (vI z) : Option AV)) ?_
              unfold iuF
              rw [if_neg (by omega)]
              first | (rw [b2_t (by omega)]; done) | (rw [b2_f (by omega)])
            · rfl
        · refine AW.iload_n (pc' := 20) dX0_isUnder_19 rfl ?_
          refine AW.bipush (pc' := 22) dX0_isUnder_20 (by decide) ?_
          refine AW.icmp_ge (tgt := 37) (pc' := 25) dX0_isUnder_22 (by first | assumption | omega | (constructor <;> omega) | (simp only [Int.toNat_natCast]; omega) | exact b2_in _) (by first | assumption | omega | (constructor <;> omega) | (simp only [Int.toNat_natCast]; omega) | exact b2_in _) (fun c22 => ?_) (fun c22 => ?_)
          · refine AW.iload_n (pc' := 38) dX0_isUnder_37 rfl ?_
            refine AW.iload_n (pc' := 39) dX0_isUnder_38 rfl ?_
            refine AW.icmp_ne (tgt := 46) (pc' := 42) dX0_isUnder_39 (by first | assumption | omega | (constructor <;> omega) | (simp only [Int.toNat_natCast]; omega) | exact b2_in _) (by first | assumption | omega | (constructor <;> omega) | (simp only [Int.toNat_natCast]; omega) | exact b2_in _) (fun c39 => ?_) (fun c39 => ?_)
            · refine AW.iconst (pc' := 47) dX0_isUnder_46 ?_
              refine AW.zret dX0_isUnder_47 ?_ ?_ (by first | exact Or.inl rfl | exact Or.inr rfl | exact b2_01 _ | assumption | (subst_vars; omega))
              · refine congrArg (fun z : Int => (some (vI z) : Option AV)) ?_
                unfold iuF
                rw [if_neg (by omega)]
                first | (rw [b2_t (by omega)]; done) | (rw [b2_f (by omega)])
              · rfl
            · refine AW.iconst (pc' := 43) dX0_isUnder_42 ?_
              refine AW.goto (tgt := 47) dX0_isUnder_43 ?_
              refine AW.zret dX0_isUnder_47 ?_ ?_ (by first | exact Or.inl rfl | exact Or.inr rfl | exact b2_01 _ | assumption | (subst_vars; omega))
              · refine congrArg (fun z : Int => (some (vI z) : Option AV)) ?_
                unfold iuF
                rw [if_neg (by omega)]
                first | (rw [b2_t (by omega)]; done) | (rw [b2_f (by omega)])
              · rfl
          · have ab1 := ab (by omega)
            refine AW.above (pc' := 28) dX0_isUnder_25 lkX0_22 ?_
            refine AW.iload_n (pc' := 29) dX0_isUnder_28 rfl ?_
            refine AW.ialdA (pc' := 30) dX0_isUnder_29 (by first | assumption | omega | (constructor <;> omega) | (simp only [Int.toNat_natCast]; omega) | exact b2_in _) (by first | assumption | omega | (constructor <;> omega) | (simp only [Int.toNat_natCast]; omega) | exact b2_in _) rfl ?_
            rw [show tAbove.getD c.toNat 0 = abvF c from rfl]
            refine AW.istore2n (pc' := 31) dX0_isUnder_30 (by decide) rfl ?_
            refine AW.iinc3 (pc' := 34) dX0_isUnder_31 (by decide) rfl ?_
            refine AW.goto (tgt := 4) dX0_isUnder_34 ?_
            have z : iuF (n + 1) c top = iuF n (abvF c) top := by
              conv => lhs; unfold iuF
              rw [if_pos (by omega)]
            rw [z]
            exact AW.weak (ih (k + 1) (abvF c) (by omega) (by omega)) (by (repeat' first | exact LSub.e | refine LSub.n ?_ | refine LSub.c ?_ ?_) <;> first | rfl | exact congrArg Sum.inl (by first | rfl | omega | (push_cast; omega)) | exact congrArg (fun z : Int => (vL z : AV)) (by first | rfl | omega | (push_cast; omega)))
set_option maxRecDepth 100000 in
set_option maxHeartbeats 4000000 in
theorem c_X0_isUnder {K : KT} {dep : Nat} {h : Hp} {a b : Int}  (q0 : -1 ≤ a ∧ a ≤ 7) (q1 : inI b) : AM K yX0_isUnder cX0_isUnder 4 (some .boolean) dep [vI a, vI b] h (some (vI (b2 (iuF 8 a b = b)))) (h) := by
  refine AM.of (own := RX0) (ls := [some (vI a), some (vI b), none, none]) rfl (by decide +kernel) (by exact Nat.le_of_ble_eq_true rfl) rfl (fun hO => ?_)
  refine AW.iload_n (pc' := 1) dX0_isUnder_0 rfl ?_
  refine AW.istore2n (pc' := 2) dX0_isUnder_1 (by decide) rfl ?_
  refine AW.iconst (pc' := 3) dX0_isUnder_2 ?_
  refine AW.istore3n (pc' := 4) dX0_isUnder_3 (by decide) rfl ?_
  exact AW.weak (lp_X0_isUnder (dep := dep) q1 8 0 a rfl q0) (by (repeat' first | exact LSub.e | refine LSub.n ?_ | refine LSub.c ?_ ?_) <;> first | rfl | exact congrArg Sum.inl (by first | rfl | omega | omega) | exact congrArg (fun z : Int => (vL z : AV)) (by first | rfl | omega | omega))
abbrev RW2 : Type := Int × List Int
def goF (rec : Int → Int → Int → RW2) (kp n num x ab : Int) : RW2 :=
  if num = 1 then (x + n, []) else if num = 2 then ((rec kp 1 x).1 - (rec kp 2 1).1, (rec kp 1 x).2 ++ (rec kp 2 1).2)
  else if num = 10 then ((rec kp 0 x).1 * 2, (rec kp 0 x).2) else if num = 11 then (xorI x n, [])
  else if num = 20 then ((rec ab 0 x).1 + 3, (rec ab 0 x).2) else if num = 30 then (-(rec ab 1 x).1, (rec ab 1 x).2)
  else if num = 40 then ((rec ab 2 x).1 * 3, (rec ab 2 x).2) else if num = 41 then ((rec ab 0 (x + 1)).1, (rec ab 0 (x + 1)).2)
  else if num = 50 then ((rec ab 2 x).1 - (rec kp 0 2).1, (rec ab 2 x).2 ++ (rec kp 0 2).2) else if num = 60 then (xorI (rec ab 3 x).1 5, (rec ab 3 x).2)
  else if num = 70 then ((rec ab 0 x).1 * 2, (rec ab 0 x).2) else if num = 80 then ((rec ab 1 x).1 + (rec kp 2 2).1, (rec ab 1 x).2 ++ (rec kp 2 2).2)
  else if num = 81 then ((rec ab 3 x).1 - 1, (rec ab 3 x).2) else (0, [])
def beF (n kp : Int) : Nat → Int → Int → Int → RW2
  | 0, _, _, _ => (0, [])
  | f + 1, kind, act, x => if woF 8 kind act < 0 then (0, []) else ((goF (beF n kp f) kp n (ownF (woF 8 kind act) act) x (abvF (woF 8 kind act))).1, ownF (woF 8 kind act) act :: (goF (beF n kp f) kp n (ownF (woF 8 kind act) act) x (abvF (woF 8 kind act))).2)
def psX (h : Hp) (v : Int) : Hp := hset (if h 43 3 < 24 then hset h 45 (h 43 3).toNat v else h) 43 3 (h 43 3 + 1)
def bgX : List Int → Hp → Hp
  | [], h => h
  | v :: r, h => bgX r (psX h v)
theorem bgX_app (A B : List Int) : ∀ h : Hp, bgX (A ++ B) h = bgX B (bgX A h) := by
  induction A with
  | nil => intro h; rfl
  | cons v r ih => intro h; exact ih (psX h v)
theorem psX_other {h : Hp} {v : Int} {k : Nat} (h1 : k ≠ 43) (h2 : k ≠ 45) : psX h v k = h k := by
  unfold psX
  rw [hset_other k h1]
  split
  · rw [hset_other k h2]
  · rfl
theorem bgX_other {k : Nat} (h1 : k ≠ 43) (h2 : k ≠ 45) : ∀ (L : List Int) (h : Hp), bgX L h k = h k
  | [], h => rfl
  | v :: r, h => by
    show bgX r (psX h v) k = h k
    rw [bgX_other h1 h2 r, psX_other h1 h2]
theorem psX_ran (h : Hp) (v : Int) : psX h v 43 3 = h 43 3 + 1 := by unfold psX; exact hset_same _ _ _ _
theorem psX_sz (h : Hp) (v : Int) : psX h v 43 2 = h 43 2 := by
  unfold psX
  rw [hset_slot (by decide)]
  split
  · rw [hset_cell (by decide)]
  · rfl
theorem bgX_ran : ∀ (L : List Int) (h : Hp), bgX L h 43 3 = h 43 3 + L.length
  | [], h => by simp [bgX]
  | v :: r, h => by
    show bgX r (psX h v) 43 3 = _
    rw [bgX_ran r, psX_ran]
    simp only [List.length_cons]
    push_cast
    omega
theorem bgX_sz : ∀ (L : List Int) (h : Hp), bgX L h 43 2 = h 43 2
  | [], h => rfl
  | v :: r, h => by
    show bgX r (psX h v) 43 2 = _
    rw [bgX_sz r, psX_sz]
theorem ite_len {c : Prop} [Decidable c] {a b : RW2} {B : Nat} (ha : c → a.2.length + 2 ≤ B) (hb : ¬ c → b.2.length + 2 ≤ B) : (if c then a else b).2.length + 2 ≤ B := by
  by_cases h : c
  · rw [if_pos h]; exact ha h
  · rw [if_neg h]; exact hb h
theorem goF_len {rec : Int → Int → Int → RW2} {b : Nat} (H : ∀ k a x, (rec k a x).2.length + 1 ≤ b) (kp n num x ab : Int) : (goF rec kp n num x ab).2.length + 2 ≤ 2 * b := by
  have h1 := H kp 1 x
  have h2 := H kp 2 1
  have h3 := H kp 0 x
  have h4 := H ab 0 x
  have h5 := H ab 1 x
  have h6 := H ab 2 x
  have h7 := H ab 0 (x + 1)
  have h8 := H kp 0 2
  have h9 := H ab 3 x
  have h10 := H kp 2 2
  unfold goF
  iterate 13 (refine ite_len (fun _ => by (try simp only [List.length_append, List.length_nil]); (try dsimp only); omega) (fun _ => ?_))
  show 0 + 2 ≤ 2 * b
  omega
theorem beF_len (n kp : Int) : ∀ (f : Nat) (k a x : Int), (beF n kp f k a x).2.length + 1 ≤ 2 ^ f
  | 0, k, a, x => by simp [beF]
  | f + 1, k, a, x => by
    have q := goF_len (fun k a x => beF_len n kp f k a x) kp n (ownF (woF 8 k a) a) x (abvF (woF 8 k a))
    unfold beF
    rw [Nat.pow_succ]
    split
    · simp only [List.length_nil]; omega
    · simp only [List.length_cons]; omega
/-- the room for numbers of acts -/
def AR (kp n : Int) (f : Nat) (h : Hp) : Prop := 0 ≤ n ∧ n < 50 ∧ h 44 n.toNat = kp ∧ 0 ≤ h 43 3 ∧ h 43 3 + ((2 ^ f : Nat) : Int) ≤ 2147483647
theorem AR.low {kp n : Int} {f : Nat} {h : Hp} (H : AR kp n (f + 1) h) (v : Int) : AR kp n f (psX h v) := by
  obtain ⟨h1, h2, h3, h4, h5⟩ := H
  have p : 0 < 2 ^ f := Nat.pow_pos (by decide)
  refine ⟨h1, h2, ?_, ?_, ?_⟩
  · rw [psX_other (by decide) (by decide)]; exact h3
  · rw [psX_ran]; omega
  · rw [psX_ran]; rw [Nat.pow_succ] at h5; omega
/-- two calls of the fuel f fit behind one act of the fuel f + 1 -/
def AR2 (kp n : Int) (f : Nat) (h : Hp) : Prop := 0 ≤ n ∧ n < 50 ∧ h 44 n.toNat = kp ∧ 0 ≤ h 43 3 ∧ h 43 3 + 2 * ((2 ^ f : Nat) : Int) ≤ 2147483647 + 1
theorem AR.two {kp n : Int} {f : Nat} {h : Hp} (H : AR kp n (f + 1) h) (v : Int) : AR2 kp n f (psX h v) := by
  obtain ⟨h1, h2, h3, h4, h5⟩ := H
  have p : 0 < 2 ^ f := Nat.pow_pos (by decide)
  refine ⟨h1, h2, ?_, ?_, ?_⟩
  · rw [psX_other (by decide) (by decide)]; exact h3
  · rw [psX_ran]; omega
  · rw [psX_ran]; rw [Nat.pow_succ] at h5; omega
theorem AR2.fst {kp n : Int} {f : Nat} {h : Hp} (H : AR2 kp n f h) : AR kp n f h := by
  obtain ⟨h1, h2, h3, h4, h5⟩ := H
  have p : 0 < 2 ^ f := Nat.pow_pos (by decide)
  exact ⟨h1, h2, h3, h4, by omega⟩
theorem AR2.snd {kp n : Int} {f : Nat} {h : Hp} (H : AR2 kp n f h) (k a x : Int) : AR kp n f (bgX (beF n kp f k a x).2 h) := by
  obtain ⟨h1, h2, h3, h4, h5⟩ := H
  have l := beF_len n kp f k a x
  refine ⟨h1, h2, ?_, ?_, ?_⟩
  · rw [bgX_other (by decide) (by decide)]; exact h3
  · rw [bgX_ran]; omega
  · rw [bgX_ran]; omega
def BegC (K : KT) (n kp : Int) (f dep : Nat) : Prop := ∀ (kind act x : Int) (h : Hp), -1 ≤ kind ∧ kind ≤ 7 → 0 ≤ act ∧ act ≤ 3 → AR kp n f h → AM K yX0_begin cX0_begin 8 (some .int) dep [vR 43, vI n, vI kind, vI act, vI x, vI (30 - (f : Int))] h (some (vI (beF n kp f kind act x).1)) (bgX (beF n kp f kind act x).2 h)
def CalC (K : KT) (n kp : Int) (f dep : Nat) : Prop := ∀ (act x : Int) (h : Hp), 0 ≤ act ∧ act ≤ 3 → AR kp n f h → AM K yX0_called cX0_called 5 (some .int) dep [vR 43, vI n, vI act, vI x, vI (30 - (f : Int))] h (some (vI (beF n kp f kp act x).1)) (bgX (beF n kp f kp act x).2 h)
set_option maxRecDepth 100000 in
set_option maxHeartbeats 4000000 in
theorem c_X0_goOn {K : KT} {dep : Nat} {h : Hp} {n num x ab kp : Int} {f d : Nat}  (hB : BegC K n kp f d) (hC : CalC K n kp f d) (hde : d + 1 ≤ dep) (qa : num = 1 ∨ num = 2 ∨ num = 10 ∨ num = 11 ∨ -1 ≤ ab ∧ ab ≤ 7) (qn : 0 ≤ num ∧ num ≤ 81) (qr : AR2 kp n f h) : AM K yX0_goOn cX0_goOn 6 (some .int) dep [vR 43, vI n, vI num, vI x, vI ab, vI (30 - (f : Int))] h (some (vI (goF (beF n kp f) kp n num x ab).1)) (bgX (goF (beF n kp f) kp n num x ab).2 h) := by
  refine AM.of (own := RX0) (ls := [some (vR 43), some (vI n), some (vI num), some (vI x), some (vI ab), some (vI (30 - (f : Int)))]) rfl (by decide +kernel) (by exact Nat.le_of_ble_eq_true rfl) rfl (fun hO => ?_)
  refine AW.iload_n (pc' := 1) dX0_goOn_0 rfl ?_
  by_cases s1_0 : num = 1
  · refine AW.top s1_0 ?_
    refine AW.lookup (tgt := 116) (off := 115) dX0_goOn_1 (by decide) (by decide) (by decide +kernel) ?_ (by decide)
    refine AW.iload_n (pc' := 117) dX0_goOn_116 rfl ?_
    refine AW.iload_n (pc' := 118) dX0_goOn_117 rfl ?_
    refine AW.iadd (pc' := 119) dX0_goOn_118 ?_
    refine AW.iret dX0_goOn_119 ?_ ?_
    · refine congrArg (fun z : Int => (some (vI z) : Option AV)) ?_
      unfold goF
      rw [if_pos (by omega)]
      try rfl
    · unfold goF
      rw [if_pos (by omega)]
      try first | rfl | exact (bgX_app _ _ _).symm | exact bgX_app _ _ _
  by_cases s1_1 : num = 2
  · refine AW.top s1_1 ?_
    refine AW.lookup (tgt := 120) (off := 119) dX0_goOn_1 (by decide) (by decide) (by decide +kernel) ?_ (by decide)
    refine AW.aload_n (pc' := 121) dX0_goOn_120 rfl ?_
    refine AW.iload_n (pc' := 122) dX0_goOn_121 rfl ?_
    refine AW.iconst (pc' := 123) dX0_goOn_122 ?_
    refine AW.iload_n (pc' := 124) dX0_goOn_123 rfl ?_
    refine AW.iload (pc' := 126) dX0_goOn_124 rfl ?_
    refine AW.invV4 (pc' := 129) dX0_goOn_126 mlX0_28 mX0_called ly_43 rfl (hC 1 x _ (by decide) qr.fst) ?_
    refine AW.aload_n (pc' := 130) dX0_goOn_129 rfl ?_
    refine AW.iload_n (pc' := 131) dX0_goOn_130 rfl ?_
    refine AW.iconst (pc' := 132) dX0_goOn_131 ?_
    refine AW.iconst (pc' := 133) dX0_goOn_132 ?_
    refine AW.iload (pc' := 135) dX0_goOn_133 rfl ?_
    refine AW.invV4 (pc' := 138) dX0_goOn_135 mlX0_28 mX0_called ly_43 rfl (hC 2 1 _ (by decide) (qr.snd _ _ _)) ?_
    refine AW.isub (pc' := 139) dX0_goOn_138 ?_
    refine AW.iret dX0_goOn_139 ?_ ?_
    · refine congrArg (fun z : Int => (some (vI z) : Option AV)) ?_
      unfold goF
      rw [if_neg (by omega), if_pos (by omega)]
      try rfl
    · unfold goF
      rw [if_neg (by omega), if_pos (by omega)]
      try first | rfl | exact (bgX_app _ _ _).symm | exact bgX_app _ _ _
  by_cases s1_2 : num = 10
  · refine AW.top s1_2 ?_
    refine AW.lookup (tgt := 140) (off := 139) dX0_goOn_1 (by decide) (by decide) (by decide +kernel) ?_ (by decide)
    refine AW.aload_n (pc' := 141) dX0_goOn_140 rfl ?_
    refine AW.iload_n (pc' := 142) dX0_goOn_141 rfl ?_
    refine AW.iconst (pc' := 143) dX0_goOn_142 ?_
    refine AW.iload_n (pc' := 144) dX0_goOn_143 rfl ?_
    refine AW.iload (pc' := 146) dX0_goOn_144 rfl ?_
    refine AW.invV4 (pc' := 149) dX0_goOn_146 mlX0_28 mX0_called ly_43 rfl (hC 0 x _ (by decide) qr.fst) ?_
    refine AW.iconst (pc' := 150) dX0_goOn_149 ?_
    refine AW.imul (pc' := 151) dX0_goOn_150 ?_
    refine AW.iret dX0_goOn_151 ?_ ?_
    · refine congrArg (fun z : Int => (some (vI z) : Option AV)) ?_
      unfold goF
      rw [if_neg (by omega), if_neg (by omega), if_pos (by omega)]
      try rfl
    · unfold goF
      rw [if_neg (by omega), if_neg (by omega), if_pos (by omega)]
      try first | rfl | exact (bgX_app _ _ _).symm | exact bgX_app _ _ _
  by_cases s1_3 : num = 11
  · refine AW.top s1_3 ?_
    refine AW.lookup (tgt := 152) (off := 151) dX0_goOn_1 (by decide) (by decide) (by decide +kernel) ?_ (by decide)
    refine AW.iload_n (pc' := 153) dX0_goOn_152 rfl ?_
    refine AW.iload_n (pc' := 154) dX0_goOn_153 rfl ?_
    refine AW.ixor (pc' := 155) dX0_goOn_154 ?_
    refine AW.iret dX0_goOn_155 ?_ ?_
    · refine congrArg (fun z : Int => (some (vI z) : Option AV)) ?_
      unfold goF
      rw [if_neg (by omega), if_neg (by omega), if_neg (by omega), if_pos (by omega)]
      try rfl
    · unfold goF
      rw [if_neg (by omega), if_neg (by omega), if_neg (by omega), if_pos (by omega)]
      try first | rfl | exact (bgX_app _ _ _).symm | exact bgX_app _ _ _
  by_cases s1_4 : num = 20
  · refine AW.top s1_4 ?_
    refine AW.lookup (tgt := 156) (off := 155) dX0_goOn_1 (by decide) (by decide) (by decide +kernel) ?_ (by decide)
    refine AW.aload_n (pc' := 157) dX0_goOn_156 rfl ?_
    refine AW.iload_n (pc' := 158) dX0_goOn_157 rfl ?_
    refine AW.iload (pc' := 160) dX0_goOn_158 rfl ?_
    refine AW.iconst (pc' := 161) dX0_goOn_160 ?_
    refine AW.iload_n (pc' := 162) dX0_goOn_161 rfl ?_
    refine AW.iload (pc' := 164) dX0_goOn_162 rfl ?_
    refine AW.invV5 (pc' := 167) dX0_goOn_164 mlX0_32 mX0_begin ly_43 rfl (hB ab 0 x _ (by omega) (by decide) qr.fst) ?_
    refine AW.iconst (pc' := 168) dX0_goOn_167 ?_
    refine AW.iadd (pc' := 169) dX0_goOn_168 ?_
    refine AW.iret dX0_goOn_169 ?_ ?_
    · refine congrArg (fun z : Int => (some (vI z) : Option AV)) ?_
      unfold goF
      rw [if_neg (by omega), if_neg (by omega), if_neg (by omega), if_neg (by omega), if_pos (by omega)]
      try rfl
    · unfold goF
      rw [if_neg (by omega), if_neg (by omega), if_neg (by omega), if_neg (by omega), if_pos (by omega)]
      try first | rfl | exact (bgX_app _ _ _).symm | exact bgX_app _ _ _
  by_cases s1_5 : num = 30
  · refine AW.top s1_5 ?_
    refine AW.lookup (tgt := 170) (off := 169) dX0_goOn_1 (by decide) (by decide) (by decide +kernel) ?_ (by decide)
    refine AW.aload_n (pc' := 171) dX0_goOn_170 rfl ?_
    refine AW.iload_n (pc' := 172) dX0_goOn_171 rfl ?_
    refine AW.iload (pc' := 174) dX0_goOn_172 rfl ?_
    refine AW.iconst (pc' := 175) dX0_goOn_174 ?_
    refine AW.iload_n (pc' := 176) dX0_goOn_175 rfl ?_
    refine AW.iload (pc' := 178) dX0_goOn_176 rfl ?_
    refine AW.invV5 (pc' := 181) dX0_goOn_178 mlX0_32 mX0_begin ly_43 rfl (hB ab 1 x _ (by omega) (by decide) qr.fst) ?_
    refine AW.ineg (pc' := 182) dX0_goOn_181 ?_
    refine AW.iret dX0_goOn_182 ?_ ?_
    · refine congrArg (fun z : Int => (some (vI z) : Option AV)) ?_
      unfold goF
      rw [if_neg (by omega), if_neg (by omega), if_neg (by omega), if_neg (by omega), if_neg (by omega), if_pos (by omega)]
      try rfl
    · unfold goF
      rw [if_neg (by omega), if_neg (by omega), if_neg (by omega), if_neg (by omega), if_neg (by omega), if_pos (by omega)]
      try first | rfl | exact (bgX_app _ _ _).symm | exact bgX_app _ _ _
  by_cases s1_6 : num = 40
  · refine AW.top s1_6 ?_
    refine AW.lookup (tgt := 183) (off := 182) dX0_goOn_1 (by decide) (by decide) (by decide +kernel) ?_ (by decide)
    refine AW.aload_n (pc' := 184) dX0_goOn_183 rfl ?_
    refine AW.iload_n (pc' := 185) dX0_goOn_184 rfl ?_
    refine AW.iload (pc' := 187) dX0_goOn_185 rfl ?_
    refine AW.iconst (pc' := 188) dX0_goOn_187 ?_
    refine AW.iload_n (pc' := 189) dX0_goOn_188 rfl ?_
    refine AW.iload (pc' := 191) dX0_goOn_189 rfl ?_
    refine AW.invV5 (pc' := 194) dX0_goOn_191 mlX0_32 mX0_begin ly_43 rfl (hB ab 2 x _ (by omega) (by decide) qr.fst) ?_
    refine AW.iconst (pc' := 195) dX0_goOn_194 ?_
    refine AW.imul (pc' := 196) dX0_goOn_195 ?_
    refine AW.iret dX0_goOn_196 ?_ ?_
    · refine congrArg (fun z : Int => (some (vI z) : Option AV)) ?_
      unfold goF
      rw [if_neg (by omega), if_neg (by omega), if_neg (by omega), if_neg (by omega), if_neg (by omega), if_neg (by omega), if_pos (by omega)]
      try rfl
    · unfold goF
      rw [if_neg (by omega), if_neg (by omega), if_neg (by omega), if_neg (by omega), if_neg (by omega), if_neg (by omega), if_pos (by omega)]
      try first | rfl | exact (bgX_app _ _ _).symm | exact bgX_app _ _ _
  by_cases s1_7 : num = 41
  · refine AW.top s1_7 ?_
    refine AW.lookup (tgt := 197) (off := 196) dX0_goOn_1 (by decide) (by decide) (by decide +kernel) ?_ (by decide)
    refine AW.aload_n (pc' := 198) dX0_goOn_197 rfl ?_
    refine AW.iload_n (pc' := 199) dX0_goOn_198 rfl ?_
    refine AW.iload (pc' := 201) dX0_goOn_199 rfl ?_
    refine AW.iconst (pc' := 202) dX0_goOn_201 ?_
    refine AW.iload_n (pc' := 203) dX0_goOn_202 rfl ?_
    refine AW.iconst (pc' := 204) dX0_goOn_203 ?_
    refine AW.iadd (pc' := 205) dX0_goOn_204 ?_
    refine AW.iload (pc' := 207) dX0_goOn_205 rfl ?_
    refine AW.invV5 (pc' := 210) dX0_goOn_207 mlX0_32 mX0_begin ly_43 rfl (hB ab 0 (x + 1) _ (by omega) (by decide) qr.fst) ?_
    refine AW.iret dX0_goOn_210 ?_ ?_
    · refine congrArg (fun z : Int => (some (vI z) : Option AV)) ?_
      unfold goF
      rw [if_neg (by omega), if_neg (by omega), if_neg (by omega), if_neg (by omega), if_neg (by omega), if_neg (by omega), if_neg (by omega), if_pos (by omega)]
      try rfl
    · unfold goF
      rw [if_neg (by omega), if_neg (by omega), if_neg (by omega), if_neg (by omega), if_neg (by omega), if_neg (by omega), if_neg (by omega), if_pos (by omega)]
      try first | rfl | exact (bgX_app _ _ _).symm | exact bgX_app _ _ _
  by_cases s1_8 : num = 50
  · refine AW.top s1_8 ?_
    refine AW.lookup (tgt := 211) (off := 210) dX0_goOn_1 (by decide) (by decide) (by decide +kernel) ?_ (by decide)
    refine AW.aload_n (pc' := 212) dX0_goOn_211 rfl ?_
    refine AW.iload_n (pc' := 213) dX0_goOn_212 rfl ?_
    refine AW.iload (pc' := 215) dX0_goOn_213 rfl ?_
    refine AW.iconst (pc' := 216) dX0_goOn_215 ?_
    refine AW.iload_n (pc' := 217) dX0_goOn_216 rfl ?_
    refine AW.iload (pc' := 219) dX0_goOn_217 rfl ?_
    refine AW.invV5 (pc' := 222) dX0_goOn_219 mlX0_32 mX0_begin ly_43 rfl (hB ab 2 x _ (by omega) (by decide) qr.fst) ?_
    refine AW.aload_n (pc' := 223) dX0_goOn_222 rfl ?_
    refine AW.iload_n (pc' := 224) dX0_goOn_223 rfl ?_
    refine AW.iconst (pc' := 225) dX0_goOn_224 ?_
    refine AW.iconst (pc' := 226) dX0_goOn_225 ?_
    refine AW.iload (pc' := 228) dX0_goOn_226 rfl ?_
    refine AW.invV4 (pc' := 231) dX0_goOn_228 mlX0_28 mX0_called ly_43 rfl (hC 0 2 _ (by decide) (qr.snd _ _ _)) ?_
    refine AW.isub (pc' := 232) dX0_goOn_231 ?_
    refine AW.iret dX0_goOn_232 ?_ ?_
    · refine congrArg (fun z : Int => (some (vI z) : Option AV)) ?_
      unfold goF
      rw [if_neg (by omega), if_neg (by omega), if_neg (by omega), if_neg (by omega), if_neg (by omega), if_neg (by omega), if_neg (by omega), if_neg (by omega), if_pos (by omega)]
      try rfl
    · unfold goF
      rw [if_neg (by omega), if_neg (by omega), if_neg (by omega), if_neg (by omega), if_neg (by omega), if_neg (by omega), if_neg (by omega), if_neg (by omega), if_pos (by omega)]
      try first | rfl | exact (bgX_app _ _ _).symm | exact bgX_app _ _ _
  by_cases s1_9 : num = 60
  · refine AW.top s1_9 ?_
    refine AW.lookup (tgt := 233) (off := 232) dX0_goOn_1 (by decide) (by decide) (by decide +kernel) ?_ (by decide)
    refine AW.aload_n (pc' := 234) dX0_goOn_233 rfl ?_
    refine AW.iload_n (pc' := 235) dX0_goOn_234 rfl ?_
    refine AW.iload (pc' := 237) dX0_goOn_235 rfl ?_
    refine AW.iconst (pc' := 238) dX0_goOn_237 ?_
    refine AW.iload_n (pc' := 239) dX0_goOn_238 rfl ?_
    refine AW.iload (pc' := 241) dX0_goOn_239 rfl ?_
    refine AW.invV5 (pc' := 244) dX0_goOn_241 mlX0_32 mX0_begin ly_43 rfl (hB ab 3 x _ (by omega) (by decide) qr.fst) ?_
    refine AW.iconst (pc' := 245) dX0_goOn_244 ?_
    refine AW.ixor (pc' := 246) dX0_goOn_245 ?_
    refine AW.iret dX0_goOn_246 ?_ ?_
    · refine congrArg (fun z : Int => (some (vI z) : Option AV)) ?_
      unfold goF
      rw [if_neg (by omega), if_neg (by omega), if_neg (by omega), if_neg (by omega), if_neg (by omega), if_neg (by omega), if_neg (by omega), if_neg (by omega), if_neg (by omega), if_pos (by omega)]
      try rfl
    · unfold goF
      rw [if_neg (by omega), if_neg (by omega), if_neg (by omega), if_neg (by omega), if_neg (by omega), if_neg (by omega), if_neg (by omega), if_neg (by omega), if_neg (by omega), if_pos (by omega)]
      try first | rfl | exact (bgX_app _ _ _).symm | exact bgX_app _ _ _
  by_cases s1_10 : num = 70
  · refine AW.top s1_10 ?_
    refine AW.lookup (tgt := 247) (off := 246) dX0_goOn_1 (by decide) (by decide) (by decide +kernel) ?_ (by decide)
    refine AW.aload_n (pc' := 248) dX0_goOn_247 rfl ?_
    refine AW.iload_n (pc' := 249) dX0_goOn_248 rfl ?_
    refine AW.iload (pc' := 251) dX0_goOn_249 rfl ?_
    refine AW.iconst (pc' := 252) dX0_goOn_251 ?_
    refine AW.iload_n (pc' := 253) dX0_goOn_252 rfl ?_
    refine AW.iload (pc' := 255) dX0_goOn_253 rfl ?_
    refine AW.invV5 (pc' := 258) dX0_goOn_255 mlX0_32 mX0_begin ly_43 rfl (hB ab 0 x _ (by omega) (by decide) qr.fst) ?_
    refine AW.iconst (pc' := 259) dX0_goOn_258 ?_
    refine AW.imul (pc' := 260) dX0_goOn_259 ?_
    refine AW.iret dX0_goOn_260 ?_ ?_
    · refine congrArg (fun z : Int => (some (vI z) : Option AV)) ?_
      unfold goF
      rw [if_neg (by omega), if_neg (by omega), if_neg (by omega), if_neg (by omega), if_neg (by omega), if_neg (by omega), if_neg (by omega), if_neg (by omega), if_neg (by omega), if_neg (by omega), if_pos (by omega)]
      try rfl
    · unfold goF
      rw [if_neg (by omega), if_neg (by omega), if_neg (by omega), if_neg (by omega), if_neg (by omega), if_neg (by omega), if_neg (by omega), if_neg (by omega), if_neg (by omega), if_neg (by omega), if_pos (by omega)]
      try first | rfl | exact (bgX_app _ _ _).symm | exact bgX_app _ _ _
  by_cases s1_11 : num = 80
  · refine AW.top s1_11 ?_
    refine AW.lookup (tgt := 261) (off := 260) dX0_goOn_1 (by decide) (by decide) (by decide +kernel) ?_ (by decide)
    refine AW.aload_n (pc' := 262) dX0_goOn_261 rfl ?_
    refine AW.iload_n (pc' := 263) dX0_goOn_262 rfl ?_
    refine AW.iload (pc' := 265) dX0_goOn_263 rfl ?_
    refine AW.iconst (pc' := 266) dX0_goOn_265 ?_
    refine AW.iload_n (pc' := 267) dX0_goOn_266 rfl ?_
    refine AW.iload (pc' := 269) dX0_goOn_267 rfl ?_
    refine AW.invV5 (pc' := 272) dX0_goOn_269 mlX0_32 mX0_begin ly_43 rfl (hB ab 1 x _ (by omega) (by decide) qr.fst) ?_
    refine AW.aload_n (pc' := 273) dX0_goOn_272 rfl ?_
    refine AW.iload_n (pc' := 274) dX0_goOn_273 rfl ?_
    refine AW.iconst (pc' := 275) dX0_goOn_274 ?_
    refine AW.iconst (pc' := 276) dX0_goOn_275 ?_
    refine AW.iload (pc' := 278) dX0_goOn_276 rfl ?_
    refine AW.invV4 (pc' := 281) dX0_goOn_278 mlX0_28 mX0_called ly_43 rfl (hC 2 2 _ (by decide) (qr.snd _ _ _)) ?_
    refine AW.iadd (pc' := 282) dX0_goOn_281 ?_
    refine AW.iret dX0_goOn_282 ?_ ?_
    · refine congrArg (fun z : Int => (some (vI z) : Option AV)) ?_
      unfold goF
      rw [if_neg (by omega), if_neg (by omega), if_neg (by omega), if_neg (by omega), if_neg (by omega), if_neg (by omega), if_neg (by omega), if_neg (by omega), if_neg (by omega), if_neg (by omega), if_neg (by omega), if_pos (by omega)]
      try rfl
    · unfold goF
      rw [if_neg (by omega), if_neg (by omega), if_neg (by omega), if_neg (by omega), if_neg (by omega), if_neg (by omega), if_neg (by omega), if_neg (by omega), if_neg (by omega), if_neg (by omega), if_neg (by omega), if_pos (by omega)]
      try first | rfl | exact (bgX_app _ _ _).symm | exact bgX_app _ _ _
  by_cases s1_12 : num = 81
  · refine AW.top s1_12 ?_
    refine AW.lookup (tgt := 283) (off := 282) dX0_goOn_1 (by decide) (by decide) (by decide +kernel) ?_ (by decide)
    refine AW.aload_n (pc' := 284) dX0_goOn_283 rfl ?_
    refine AW.iload_n (pc' := 285) dX0_goOn_284 rfl ?_
    refine AW.iload (pc' := 287) dX0_goOn_285 rfl ?_
    refine AW.iconst (pc' := 288) dX0_goOn_287 ?_
    refine AW.iload_n (pc' := 289) dX0_goOn_288 rfl ?_
    refine AW.iload (pc' := 291) dX0_goOn_289 rfl ?_
    refine AW.invV5 (pc' := 294) dX0_goOn_291 mlX0_32 mX0_begin ly_43 rfl (hB ab 3 x _ (by omega) (by decide) qr.fst) ?_
    refine AW.iconst (pc' := 295) dX0_goOn_294 ?_
    refine AW.isub (pc' := 296) dX0_goOn_295 ?_
    refine AW.iret dX0_goOn_296 ?_ ?_
    · refine congrArg (fun z : Int => (some (vI z) : Option AV)) ?_
      unfold goF
      rw [if_neg (by omega), if_neg (by omega), if_neg (by omega), if_neg (by omega), if_neg (by omega), if_neg (by omega), if_neg (by omega), if_neg (by omega), if_neg (by omega), if_neg (by omega), if_neg (by omega), if_neg (by omega), if_pos (by omega)]
      try rfl
    · unfold goF
      rw [if_neg (by omega), if_neg (by omega), if_neg (by omega), if_neg (by omega), if_neg (by omega), if_neg (by omega), if_neg (by omega), if_neg (by omega), if_neg (by omega), if_neg (by omega), if_neg (by omega), if_neg (by omega), if_pos (by omega)]
      try first | rfl | exact (bgX_app _ _ _).symm | exact bgX_app _ _ _
  refine AW.lookup (tgt := 297) (off := 296) dX0_goOn_1 (by first | assumption | omega | (constructor <;> omega) | (simp only [Int.toNat_natCast]; omega) | exact b2_in _) (by decide) (by simp [Op.lookupswitch.offset_cons, Ne.symm s1_0, Ne.symm s1_1, Ne.symm s1_2, Ne.symm s1_3, Ne.symm s1_4, Ne.symm s1_5, Ne.symm s1_6, Ne.symm s1_7, Ne.symm s1_8, Ne.symm s1_9, Ne.symm s1_10, Ne.symm s1_11, Ne.symm s1_12, s1_0, s1_1, s1_2, s1_3, s1_4, s1_5, s1_6, s1_7, s1_8, s1_9, s1_10, s1_11, s1_12]; try rfl) ?_ (by decide)
  refine AW.iconst (pc' := 298) dX0_goOn_297 ?_
  refine AW.iret dX0_goOn_298 ?_ ?_
  · refine congrArg (fun z : Int => (some (vI z) : Option AV)) ?_
    unfold goF
    rw [if_neg (by omega), if_neg (by omega), if_neg (by omega), if_neg (by omega), if_neg (by omega), if_neg (by omega), if_neg (by omega), if_neg (by omega), if_neg (by omega), if_neg (by omega), if_neg (by omega), if_neg (by omega), if_neg (by omega)]
  · unfold goF
    rw [if_neg (by omega), if_neg (by omega), if_neg (by omega), if_neg (by omega), if_neg (by omega), if_neg (by omega), if_neg (by omega), if_neg (by omega), if_neg (by omega), if_neg (by omega), if_neg (by omega), if_neg (by omega), if_neg (by omega)]
    try rfl
set_option maxRecDepth 100000 in
set_option maxHeartbeats 4000000 in
theorem c_X0_begin0 {K : KT} {dep : Nat} {h : Hp} {n kind act x : Int} (hd : 1 ≤ dep) (qk : -1 ≤ kind ∧ kind ≤ 7) (qa : 0 ≤ act ∧ act ≤ 3) : AM K yX0_begin cX0_begin 8 (some .int) dep [vR 43, vI n, vI kind, vI act, vI x, vI 30] h (some (vI 0)) (h) := by
  refine AM.of (own := RX0) (ls := [some (vR 43), some (vI n), some (vI kind), some (vI act), some (vI x), some (vI 30), none, none]) rfl (by decide +kernel) (by exact Nat.le_of_ble_eq_true rfl) rfl (fun hO => ?_)
  refine AW.iload_n (pc' := 1) dX0_begin_0 rfl ?_
  refine AW.iload_n (pc' := 2) dX0_begin_1 rfl ?_
  refine AW.invS2 (pc' := 5) dX0_begin_2 mlX0_36 mX0_withOwn (c_X0_withOwn (dep := dep - 1) (by first | assumption | omega | (constructor <;> omega) | (simp only [Int.toNat_natCast]; omega) | exact b2_in _) (by first | assumption | omega | (constructor <;> omega) | (simp only [Int.toNat_natCast]; omega) | exact b2_in _)) ?_
  have wo := woF_in act 8 kind qk.1 qk.2
  refine AW.istore6 (pc' := 7) dX0_begin_5 (by decide) rfl ?_
  refine AW.iload (pc' := 9) dX0_begin_7 rfl ?_
  refine AW.if_lt (tgt := 26) (pc' := 12) dX0_begin_9 (by first | assumption | omega | (constructor <;> omega) | (simp only [Int.toNat_natCast]; omega) | exact b2_in _) (fun c9 => ?_) (fun c9 => ?_)
  · refine AW.iconst (pc' := 27) dX0_begin_26 ?_
    refine AW.iret dX0_begin_27 ?_ ?_
    all_goals first | rfl | exact congrArg (fun z : Int => (some (vI z) : Option AV)) (b2_t (by omega)) | exact congrArg (fun z : Int => (some (vI z) : Option AV)) (b2_f (by omega)) | ((repeat' split) <;> first | rfl | omega) | (refine congrArg (fun z : Int => (some (vI z) : Option AV)) ?_; (repeat' split) <;> first | rfl | omega)
  · refine AW.iload (pc' := 14) dX0_begin_12 rfl ?_
    refine AW.bipush (pc' := 16) dX0_begin_14 (by decide) ?_
    refine AW.icmp_ge (tgt := 26) (pc' := 19) dX0_begin_16 (by first | assumption | omega | (constructor <;> omega) | (simp only [Int.toNat_natCast]; omega) | exact b2_in _) (by first | assumption | omega | (constructor <;> omega) | (simp only [Int.toNat_natCast]; omega) | exact b2_in _) (fun c16 => ?_) (fun c16 => ?_)
    · refine AW.iconst (pc' := 27) dX0_begin_26 ?_
      refine AW.iret dX0_begin_27 ?_ ?_
      all_goals first | rfl | exact congrArg (fun z : Int => (some (vI z) : Option AV)) (b2_t (by omega)) | exact congrArg (fun z : Int => (some (vI z) : Option AV)) (b2_f (by omega)) | ((repeat' split) <;> first | rfl | omega) | (refine congrArg (fun z : Int => (some (vI z) : Option AV)) ?_; (repeat' split) <;> first | rfl | omega)
    · refine AW.iload (pc' := 21) dX0_begin_19 rfl ?_
      refine AW.bipush (pc' := 23) dX0_begin_21 (by decide) ?_
      refine AW.icmp_lt (tgt := 28) (pc' := 26) dX0_begin_23 (by first | assumption | omega | (constructor <;> omega) | (simp only [Int.toNat_natCast]; omega) | exact b2_in _) (by first | assumption | omega | (constructor <;> omega) | (simp only [Int.toNat_natCast]; omega) | exact b2_in _) (fun c23 => ?_) (fun c23 => ?_)
      · omega
      · refine AW.iconst (pc' := 27) dX0_begin_26 ?_
        refine AW.iret dX0_begin_27 ?_ ?_
        all_goals first | rfl | exact congrArg (fun z : Int => (some (vI z) : Option AV)) (b2_t (by omega)) | exact congrArg (fun z : Int => (some (vI z) : Option AV)) (b2_f (by omega)) | ((repeat' split) <;> first | rfl | omega) | (refine congrArg (fun z : Int => (some (vI z) : Option AV)) ?_; (repeat' split) <;> first | rfl | omega)
set_option maxRecDepth 100000 in
set_option maxHeartbeats 4000000 in
theorem c_X0_beginS {K : KT} {dep : Nat} {h : Hp} {n kind act x kp : Int} {f d : Nat}  (hB : BegC K n kp f d) (hC : CalC K n kp f d) (hde : d + 2 ≤ dep) (qk : -1 ≤ kind ∧ kind ≤ 7) (qa : 0 ≤ act ∧ act ≤ 3) (qf : f ≤ 29) (qr : AR kp n (f + 1) h) : AM K yX0_begin cX0_begin 8 (some .int) dep [vR 43, vI n, vI kind, vI act, vI x, vI (30 - ((f + 1 : Nat) : Int))] h (some (vI (beF n kp (f + 1) kind act x).1)) (bgX (beF n kp (f + 1) kind act x).2 h) := by
  refine AM.of (own := RX0) (ls := [some (vR 43), some (vI n), some (vI kind), some (vI act), some (vI x), some (vI (30 - ((f + 1 : Nat) : Int))), none, none]) rfl (by decide +kernel) (by exact Nat.le_of_ble_eq_true rfl) rfl (fun hO => ?_)
  refine AW.iload_n (pc' := 1) dX0_begin_0 rfl ?_
  refine AW.iload_n (pc' := 2) dX0_begin_1 rfl ?_
  refine AW.invS2 (pc' := 5) dX0_begin_2 mlX0_36 mX0_withOwn (c_X0_withOwn (dep := dep - 1) (by first | assumption | omega | (constructor <;> omega) | (simp only [Int.toNat_natCast]; omega) | exact b2_in _) (by first | assumption | omega | (constructor <;> omega) | (simp only [Int.toNat_natCast]; omega) | exact b2_in _)) ?_
  have wo := woF_in act 8 kind qk.1 qk.2
  generalize hw : woF 8 kind act = k at wo ⊢
  refine AW.istore6 (pc' := 7) dX0_begin_5 (by decide) rfl ?_
  refine AW.iload (pc' := 9) dX0_begin_7 rfl ?_
  refine AW.if_lt (tgt := 26) (pc' := 12) dX0_begin_9 (by first | assumption | omega | (constructor <;> omega) | (simp only [Int.toNat_natCast]; omega) | exact b2_in _) (fun c9 => ?_) (fun c9 => ?_)
  · refine AW.iconst (pc' := 27) dX0_begin_26 ?_
    refine AW.iret dX0_begin_27 ?_ ?_
    · refine congrArg (fun z : Int => (some (vI z) : Option AV)) ?_
      unfold beF
      rw [hw]
      first | (rw [if_pos (by omega)]; done) | (rw [if_neg (by omega)])
    · unfold beF
      rw [hw]
      first | (rw [if_pos (by omega)]; rfl) | (rw [if_neg (by omega)]; rfl)
  · refine AW.iload (pc' := 14) dX0_begin_12 rfl ?_
    refine AW.bipush (pc' := 16) dX0_begin_14 (by decide) ?_
    refine AW.icmp_ge (tgt := 26) (pc' := 19) dX0_begin_16 (by first | assumption | omega | (constructor <;> omega) | (simp only [Int.toNat_natCast]; omega) | exact b2_in _) (by first | assumption | omega | (constructor <;> omega) | (simp only [Int.toNat_natCast]; omega) | exact b2_in _) (fun c16 => ?_) (fun c16 => ?_)
    · omega
    · refine AW.iload (pc' := 21) dX0_begin_19 rfl ?_
      refine AW.bipush (pc' := 23) dX0_begin_21 (by decide) ?_
      refine AW.icmp_lt (tgt := 28) (pc' := 26) dX0_begin_23 (by first | assumption | omega | (constructor <;> omega) | (simp only [Int.toNat_natCast]; omega) | exact b2_in _) (by first | assumption | omega | (constructor <;> omega) | (simp only [Int.toNat_natCast]; omega) | exact b2_in _) (fun c23 => ?_) (fun c23 => ?_)
      · have ow := ownF_in (k := k) (act := act) (by omega) (by omega) qa.1 qa.2
        have av := abvF_in (k := k) (by omega) (by omega)
        obtain ⟨ar1, ar2, ar3, ar4, ar5⟩ := qr
        have pp : 1 ≤ 2 ^ (f + 1) := Nat.pow_pos (by decide)
        refine AW.ownS (pc' := 31) dX0_begin_28 lkX0_25 ?_
        refine AW.iconst (pc' := 32) dX0_begin_31 ?_
        refine AW.iload (pc' := 34) dX0_begin_32 rfl ?_
        refine AW.imul (pc' := 35) dX0_begin_34 ?_
        refine AW.iload_n (pc' := 36) dX0_begin_35 rfl ?_
        refine AW.iadd (pc' := 37) dX0_begin_36 ?_
        refine AW.ialdO (pc' := 38) dX0_begin_37 (by first | assumption | omega | (constructor <;> omega) | (simp only [Int.toNat_natCast]; omega) | exact b2_in _) (by first | assumption | omega | (constructor <;> omega) | (simp only [Int.toNat_natCast]; omega) | exact b2_in _) rfl ?_
        rw [show tOwn.getD (4 * k + act).toNat 0 = ownF k act from rfl]
        refine AW.istore7 (pc' := 40) dX0_begin_38 (by decide) rfl ?_
        refine AW.aload_n (pc' := 41) dX0_begin_40 rfl ?_
        refine AW.getI (pc' := 44) dX0_begin_41 ly_43 fX0_40 rfl (fun r41 => ?_)
        refine AW.bipush (pc' := 46) dX0_begin_44 (by decide) ?_
        refine AW.icmp_ge (tgt := 60) (pc' := 49) dX0_begin_46 (by first | assumption | omega | (constructor <;> omega) | (simp only [Int.toNat_natCast]; omega) | exact b2_in _) (by first | assumption | omega | (constructor <;> omega) | (simp only [Int.toNat_natCast]; omega) | exact b2_in _) (fun c46 => ?_) (fun c46 => ?_)
        · refine AW.aload_n (pc' := 61) dX0_begin_60 rfl ?_
          refine AW.dup (pc' := 62) dX0_begin_61 rfl ?_
          refine AW.getI (pc' := 65) dX0_begin_62 ly_43 fX0_40 rfl (fun r62 => ?_)
          refine AW.iconst (pc' := 66) dX0_begin_65 ?_
          refine AW.iadd (pc' := 67) dX0_begin_66 ?_
          refine AW.putI (pc' := 70) dX0_begin_67 ly_43 pX0_40 rfl (by first | assumption | omega | (constructor <;> omega) | (simp only [Int.toNat_natCast]; omega) | exact b2_in _) ?_
          first | rw [show hset (hset h 45 (h 43 3).toNat (ownF k act)) 43 3 (h 43 3 + 1) = psX h (ownF k act) from by unfold psX; rw [if_pos (by omega)]] | rw [show hset h 43 3 (h 43 3 + 1) = psX h (ownF k act) from by unfold psX; rw [if_neg (by omega)]]
          refine AW.aload_n (pc' := 71) dX0_begin_70 rfl ?_
          refine AW.iload_n (pc' := 72) dX0_begin_71 rfl ?_
          refine AW.iload (pc' := 74) dX0_begin_72 rfl ?_
          refine AW.iload (pc' := 76) dX0_begin_74 rfl ?_
          refine AW.above (pc' := 79) dX0_begin_76 lkX0_22 ?_
          refine AW.iload (pc' := 81) dX0_begin_79 rfl ?_
          refine AW.ialdA (pc' := 82) dX0_begin_81 (by first | assumption | omega | (constructor <;> omega) | (simp only [Int.toNat_natCast]; omega) | exact b2_in _) (by first | assumption | omega | (constructor <;> omega) | (simp only [Int.toNat_natCast]; omega) | exact b2_in _) rfl ?_
          rw [show tAbove.getD k.toNat 0 = abvF k from rfl]
          refine AW.iload (pc' := 84) dX0_begin_82 rfl ?_
          refine AW.iconst (pc' := 85) dX0_begin_84 ?_
          refine AW.iadd (pc' := 86) dX0_begin_85 ?_
          refine AW.top (b := 30 - (f : Int)) (by push_cast; omega) ?_
          refine AW.invV5 (pc' := 89) dX0_begin_86 mlX0_43 mX0_goOn ly_43 rfl (c_X0_goOn (dep := dep - 1) hB hC (by omega) (by first | omega | exact Or.inr (Or.inr (Or.inr (Or.inr av)))) ow (AR.two ⟨ar1, ar2, ar3, ar4, ar5⟩ _)) ?_
          refine AW.iret dX0_begin_89 ?_ ?_
          · refine congrArg (fun z : Int => (some (vI z) : Option AV)) ?_
            unfold beF
            rw [hw]
            first | (rw [if_pos (by omega)]; done) | (rw [if_neg (by omega)])
          · unfold beF
            rw [hw]
            first | (rw [if_pos (by omega)]; rfl) | (rw [if_neg (by omega)]; rfl)
        · refine AW.aload_n (pc' := 50) dX0_begin_49 rfl ?_
          refine AW.getR (pc' := 53) dX0_begin_50 ly_43 fX0_15 rfl ?_
          refine AW.aload_n (pc' := 54) dX0_begin_53 rfl ?_
          refine AW.getI (pc' := 57) dX0_begin_54 ly_43 fX0_40 rfl (fun r54 => ?_)
          refine AW.iload (pc' := 59) dX0_begin_57 rfl ?_
          first | refine AW.iastN (pc' := 60) dX0_begin_59 ly_45 (by first | assumption | omega | (constructor <;> omega) | (simp only [Int.toNat_natCast]; omega) | exact b2_in _) (by decide) (by first | assumption | omega | (constructor <;> omega) | (simp only [Int.toNat_natCast]; omega) | exact b2_in _) ?_ | refine AW.iast (pc' := 60) dX0_begin_59 ly_45 (by first | assumption | omega | (constructor <;> omega) | (simp only [Int.toNat_natCast]; omega) | exact b2_in _) (by first | assumption | omega | (constructor <;> omega) | (simp only [Int.toNat_natCast]; omega) | exact b2_in _) (by decide) (by first | assumption | omega | (constructor <;> omega) | (simp only [Int.toNat_natCast]; omega) | exact b2_in _) ?_
          refine AW.aload_n (pc' := 61) dX0_begin_60 rfl ?_
          refine AW.dup (pc' := 62) dX0_begin_61 rfl ?_
          refine AW.getI (pc' := 65) dX0_begin_62 ly_43 fX0_40 rfl (fun r62 => ?_)
          try simp only [hset_app, Nat.reduceEqDiff, false_and, and_false, true_and, and_true, reduceIte] at r62 ⊢
          refine AW.iconst (pc' := 66) dX0_begin_65 ?_
          refine AW.iadd (pc' := 67) dX0_begin_66 ?_
          refine AW.putI (pc' := 70) dX0_begin_67 ly_43 pX0_40 rfl (by first | assumption | omega | (constructor <;> omega) | (simp only [Int.toNat_natCast]; omega) | exact b2_in _) ?_
          first | rw [show hset (hset h 45 (h 43 3).toNat (ownF k act)) 43 3 (h 43 3 + 1) = psX h (ownF k act) from by unfold psX; rw [if_pos (by omega)]] | rw [show hset h 43 3 (h 43 3 + 1) = psX h (ownF k act) from by unfold psX; rw [if_neg (by omega)]]
          refine AW.aload_n (pc' := 71) dX0_begin_70 rfl ?_
          refine AW.iload_n (pc' := 72) dX0_begin_71 rfl ?_
          refine AW.iload (pc' := 74) dX0_begin_72 rfl ?_
          refine AW.iload (pc' := 76) dX0_begin_74 rfl ?_
          refine AW.above (pc' := 79) dX0_begin_76 lkX0_22 ?_
          refine AW.iload (pc' := 81) dX0_begin_79 rfl ?_
          refine AW.ialdA (pc' := 82) dX0_begin_81 (by first | assumption | omega | (constructor <;> omega) | (simp only [Int.toNat_natCast]; omega) | exact b2_in _) (by first | assumption | omega | (constructor <;> omega) | (simp only [Int.toNat_natCast]; omega) | exact b2_in _) rfl ?_
          rw [show tAbove.getD k.toNat 0 = abvF k from rfl]
          refine AW.iload (pc' := 84) dX0_begin_82 rfl ?_
          refine AW.iconst (pc' := 85) dX0_begin_84 ?_
          refine AW.iadd (pc' := 86) dX0_begin_85 ?_
          refine AW.top (b := 30 - (f : Int)) (by push_cast; omega) ?_
          refine AW.invV5 (pc' := 89) dX0_begin_86 mlX0_43 mX0_goOn ly_43 rfl (c_X0_goOn (dep := dep - 1) hB hC (by omega) (by first | omega | exact Or.inr (Or.inr (Or.inr (Or.inr av)))) ow (AR.two ⟨ar1, ar2, ar3, ar4, ar5⟩ _)) ?_
          refine AW.iret dX0_begin_89 ?_ ?_
          · refine congrArg (fun z : Int => (some (vI z) : Option AV)) ?_
            unfold beF
            rw [hw]
            first | (rw [if_pos (by omega)]; done) | (rw [if_neg (by omega)])
          · unfold beF
            rw [hw]
            first | (rw [if_pos (by omega)]; rfl) | (rw [if_neg (by omega)]; rfl)
      · exfalso; push_cast at *; omega
set_option maxRecDepth 100000 in
set_option maxHeartbeats 4000000 in
theorem c_X0_called {K : KT} {dep : Nat} {h : Hp} {n act x kp : Int} {f d : Nat}  (hB : BegC K n kp f d) (hde : d + 1 ≤ dep) (qk : 0 ≤ kp ∧ kp ≤ 7) (qa : 0 ≤ act ∧ act ≤ 3) (qr : AR kp n f h) : AM K yX0_called cX0_called 5 (some .int) dep [vR 43, vI n, vI act, vI x, vI (30 - (f : Int))] h (some (vI (beF n kp f kp act x).1)) (bgX (beF n kp f kp act x).2 h) := by
  refine AM.of (own := RX0) (ls := [some (vR 43), some (vI n), some (vI act), some (vI x), some (vI (30 - (f : Int)))]) rfl (by decide +kernel) (by exact Nat.le_of_ble_eq_true rfl) rfl (fun hO => ?_)
  have qr1 := qr
  obtain ⟨ar1, ar2, ar3, ar4, ar5⟩ := qr
  refine AW.aload_n (pc' := 1) dX0_called_0 rfl ?_
  refine AW.iload_n (pc' := 2) dX0_called_1 rfl ?_
  refine AW.aload_n (pc' := 3) dX0_called_2 rfl ?_
  refine AW.getR (pc' := 6) dX0_called_3 ly_43 fX0_9 rfl ?_
  refine AW.iload_n (pc' := 7) dX0_called_6 rfl ?_
  first | refine AW.ialdN (pc' := 8) dX0_called_7 ly_44 (by first | assumption | omega | (constructor <;> omega) | (simp only [Int.toNat_natCast]; omega) | exact b2_in _) (by decide) (fun r7 => ?_) | refine AW.iald (pc' := 8) dX0_called_7 ly_44 (by first | assumption | omega | (constructor <;> omega) | (simp only [Int.toNat_natCast]; omega) | exact b2_in _) (by first | assumption | omega | (constructor <;> omega) | (simp only [Int.toNat_natCast]; omega) | exact b2_in _) (by decide) (fun r7 => ?_)
  try simp only [ar3] at r7 ⊢
  refine AW.iload_n (pc' := 9) dX0_called_8 rfl ?_
  refine AW.iload_n (pc' := 10) dX0_called_9 rfl ?_
  refine AW.iload (pc' := 12) dX0_called_10 rfl ?_
  refine AW.invV5 (pc' := 15) dX0_called_12 mlX0_32 mX0_begin ly_43 rfl (hB kp act x h (by omega) qa qr1) ?_
  try simp only [Int.toNat_natCast, ar3]
  refine AW.iret dX0_called_15 ?_ ?_
  all_goals first | rfl | exact congrArg (fun z : Int => (some (vI z) : Option AV)) (b2_t (by omega)) | exact congrArg (fun z : Int => (some (vI z) : Option AV)) (b2_f (by omega)) | ((repeat' split) <;> first | rfl | omega) | (refine congrArg (fun z : Int => (some (vI z) : Option AV)) ?_; (repeat' split) <;> first | rfl | omega)
theorem ac_all {K : KT} {n kp : Int} (qk : 0 ≤ kp ∧ kp ≤ 7) : ∀ f : Nat, f ≤ 30 → ∀ dep : Nat, 4 * f + 3 ≤ dep → BegC K n kp f dep ∧ CalC K n kp f dep
  | 0, _, dep, hd => by
    have b : ∀ dep : Nat, 1 ≤ dep → BegC K n kp 0 dep := fun dep hd kind act x h q1 q2 q3 => c_X0_begin0 hd q1 q2
    exact ⟨b dep (by omega), fun act x h q2 q3 => c_X0_called (b (dep - 1) (by omega)) (by omega) qk q2 q3⟩
  | f + 1, hf, dep, hd => by
    have r := fun d hd => ac_all (K := K) (n := n) qk f (by omega) d hd
    have b : ∀ dep : Nat, 4 * f + 5 ≤ dep → BegC K n kp (f + 1) dep := fun dep hd kind act x h q1 q2 q3 => c_X0_beginS (r (dep - 2) (by omega)).1 (r (dep - 2) (by omega)).2 (by omega) q1 q2 (by omega) q3
    exact ⟨b dep (by omega), fun act x h q2 q3 => c_X0_called (b (dep - 1) (by omega)) (by omega) qk q2 q3⟩
set_option maxRecDepth 100000 in
set_option maxHeartbeats 4000000 in
theorem c_X0_acted {K : KT} {dep : Nat} {h : Hp} {n act x kp : Int} (hd : 124 ≤ dep) (qk : 0 ≤ kp ∧ kp ≤ 7) (qa : 0 ≤ act ∧ act ≤ 3) (qr : AR kp n 30 h) : AM K yX0_acted cX0_acted 4 (some .int) dep [vR 43, vI n, vI act, vI x] h (some (vI (beF n kp 30 kp act x).1)) (bgX (beF n kp 30 kp act x).2 h) := by
  refine AM.of (own := RX0) (ls := [some (vR 43), some (vI n), some (vI act), some (vI x)]) rfl (by decide +kernel) (by exact Nat.le_of_ble_eq_true rfl) rfl (fun hO => ?_)
  refine AW.aload_n (pc' := 1) dX0_acted_0 rfl ?_
  refine AW.iload_n (pc' := 2) dX0_acted_1 rfl ?_
  refine AW.iload_n (pc' := 3) dX0_acted_2 rfl ?_
  refine AW.iload_n (pc' := 4) dX0_acted_3 rfl ?_
  refine AW.iconst (pc' := 5) dX0_acted_4 ?_
  refine AW.top (b := 30 - ((30 : Nat) : Int)) (by decide) ?_
  refine AW.invV4 (pc' := 8) dX0_acted_5 mlX0_28 mX0_called ly_43 rfl ((ac_all (n := n) qk 30 (Nat.le_refl _) (dep - 1) (by omega)).2 act x _ qa qr) ?_
  refine AW.iret dX0_acted_8 ?_ ?_
  all_goals first | rfl | exact congrArg (fun z : Int => (some (vI z) : Option AV)) (b2_t (by omega)) | exact congrArg (fun z : Int => (some (vI z) : Option AV)) (b2_f (by omega)) | ((repeat' split) <;> first | rfl | omega) | (refine congrArg (fun z : Int => (some (vI z) : Option AV)) ?_; (repeat' split) <;> first | rfl | omega)
set_option maxRecDepth 100000 in
set_option maxHeartbeats 4000000 in
theorem c_X11_act {K : KT} {dep : Nat} {h : Hp} {a b c : Int} (hd : 130 ≤ dep) (q0 : h 43 2 ≤ 50) (q1 : ∀ k : Nat, (k : Int) < h 43 2 → 0 ≤ h 44 k ∧ h 44 k ≤ 7) (q2 : inI a) (q3 : inI b) (q4 : inI c) : AM K yX11_act cX11_act 4 (some .int) dep [vR 0, vI a, vI b, vI c] h (some (vI (if ((0 ≤ a ∧ a < h 43 2) ∧ 0 ≤ b ∧ b ≤ 3) then (beF a (h 44 a.toNat) 30 (h 44 a.toNat) b c).1 else 0))) (if ((0 ≤ a ∧ a < h 43 2) ∧ 0 ≤ b ∧ b ≤ 3) then bgX (beF a (h 44 a.toNat) 30 (h 44 a.toNat) b c).2 (hset h 43 3 0) else hset h 43 3 0) := by
  refine AM.of (own := RX11) (ls := [some (vR 0), some (vI a), some (vI b), some (vI c)]) rfl (by decide +kernel) (by exact Nat.le_of_ble_eq_true rfl) rfl (fun hO => ?_)
  refine AW.aload_n (pc' := 1) dX11_act_0 rfl ?_
  refine AW.getR (pc' := 4) dX11_act_1 ly_0 fX11_74 rfl ?_
  refine AW.iconst (pc' := 5) dX11_act_4 ?_
  refine AW.putI (pc' := 8) dX11_act_5 ly_43 pX11_298 rfl (by first | assumption | omega | (constructor <;> omega) | (simp only [Int.toNat_natCast]; omega) | exact b2_in _) ?_
  have f2 : hset h 43 3 0 43 2 = h 43 2 := hset_slot (by decide)
  refine AW.aload_n (pc' := 9) dX11_act_8 rfl ?_
  refine AW.getR (pc' := 12) dX11_act_9 ly_0 fX11_74 rfl ?_
  refine AW.iload_n (pc' := 13) dX11_act_12 rfl ?_
  skip
  refine AW.invV1 (pc' := 16) dX11_act_13 mlX11_301 mX0_has ly_43 rfl (c_X0_has (dep := dep - 1) (by first | assumption | omega | (constructor <;> omega) | (simp only [Int.toNat_natCast]; omega) | exact b2_in _)) ?_
  simp only [f2]
  refine AW.ifb_eq (tgt := 28) (pc' := 19) dX11_act_16 (fun c16 => ?_) (fun c16 => ?_)
  · refine AW.iconst (pc' := 29) dX11_act_28 ?_
    refine AW.iret dX11_act_29 ?_ ?_
    · first | (rw [if_neg (by omega)]; done) | (rw [if_pos c9])
    · first | (rw [if_neg (by omega)]; done) | (rw [if_pos c9])
  · refine AW.iload_n (pc' := 20) dX11_act_19 rfl ?_
    refine AW.iconst (pc' := 21) dX11_act_20 ?_
    refine AW.iconst (pc' := 22) dX11_act_21 ?_
    refine AW.invS3 (pc' := 25) dX11_act_22 mlX11_89 mX11_within (c_X11_within (dep := dep - 1) (by first | assumption | omega | (constructor <;> omega) | (simp only [Int.toNat_natCast]; omega) | exact b2_in _) (by first | assumption | omega | (constructor <;> omega) | (simp only [Int.toNat_natCast]; omega) | exact b2_in _) (by first | assumption | omega | (constructor <;> omega) | (simp only [Int.toNat_natCast]; omega) | exact b2_in _)) ?_
    refine AW.ifb_ne (tgt := 30) (pc' := 28) dX11_act_25 (fun c25 => ?_) (fun c25 => ?_)
    · refine AW.aload_n (pc' := 31) dX11_act_30 rfl ?_
      refine AW.getR (pc' := 34) dX11_act_31 ly_0 fX11_74 rfl ?_
      refine AW.iload_n (pc' := 35) dX11_act_34 rfl ?_
      refine AW.iload_n (pc' := 36) dX11_act_35 rfl ?_
      refine AW.iload_n (pc' := 37) dX11_act_36 rfl ?_
      have qk := q1 a.toNat (by omega)
      have c9 : ((0 ≤ a ∧ a < h 43 2) ∧ 0 ≤ b ∧ b ≤ 3) := by omega
      refine AW.invV3 (pc' := 40) dX11_act_37 mlX11_302 mX0_acted ly_43 rfl (c_X0_acted (dep := dep - 1) (n := a) (by omega) qk (by omega) ⟨by omega, by omega, by rw [hset_other 44 (by decide)], by rw [hset_same]; decide, by rw [hset_same]; decide⟩) ?_
      refine AW.iret dX11_act_40 ?_ ?_
      · first | (rw [if_neg (by omega)]; done) | (rw [if_pos c9])
      · first | (rw [if_neg (by omega)]; done) | (rw [if_pos c9])
    · refine AW.iconst (pc' := 29) dX11_act_28 ?_
      refine AW.iret dX11_act_29 ?_ ?_
      · first | (rw [if_neg (by omega)]; done) | (rw [if_pos c9])
      · first | (rw [if_neg (by omega)]; done) | (rw [if_pos c9])
