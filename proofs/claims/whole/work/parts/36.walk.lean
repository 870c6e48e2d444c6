/-! laws: the class's reader, walked -/
abbrev TX (g : Hp) : Nat → Int := g (g 26 6).toNat
def GI (g : Hp) : Prop := LY[(g 26 6).toNat]? = some (2, 120, []) ∧ 0 ≤ g 26 7 ∧ g 26 7 ≤ 120
theorem GI.ne {g : Hp} (H : GI g) : (g 26 6).toNat ≠ 26 := fun e => by
  have q := H.1
  rw [e, ly_26] at q
  cases q
theorem nx_in {T : Nat → Int} {E : Int} {s : St} (hT : ∀ j, inB (T j)) : -1 ≤ nx T E s ∧ nx T E s ≤ 255 := by
  unfold nx
  have := b255_in (hT s.1.toNat)
  split <;> omega
def PC (K : KT) (g : Hp) (y : MethodName) (cc : ByteArray) (nL dep : Nat) (o : Int) (pf : PF) : Prop := ∀ s, SI (g 26 7) s → AM K y cc nL (some .int) dep [vR 26, vI o] (LH g s) (some (vI (pf s).1)) (LH g (pf s).2)
set_option maxRecDepth 100000 in
set_option maxHeartbeats 4000000 in
theorem c_X5_next {K : KT} {dep : Nat}  {g : Hp} {s : St}  (hG : GI g) (hs : SI (g 26 7) s) : AM K yX5_next cX5_next 1 (some .int) dep [vR 26] (LH g s) (some (vI (nx (TX g) (g 26 7) s))) (LH g s) := by
  refine AM.of (own := RX5) (ls := [some (vR 26)]) rfl (by decide +kernel) (by exact Nat.le_of_ble_eq_true rfl) rfl (fun hO => ?_)
  have hLt := hG.1
  have hrow : LH g s (g 26 6).toNat = g (g 26 6).toNat := LH_row g s hG.ne
  have hby : ∀ j, inB (TX g j) := fun j => by
    have := hO.bytes hG.1 j
    rwa [hrow] at this
  have e0 := hG.2.1
  have e1 := hG.2.2
  obtain ⟨s0, s1, s2, s3⟩ := hs
  have hs : SI (g 26 7) s := ⟨s0, s1, s2, s3⟩
  refine AW.aload_n (pc' := 1) dX5_next_0 rfl ?_
  refine AW.getI (pc' := 4) dX5_next_1 ly_26 fX5_41 rfl (fun r1 => ?_)
  try simp only [LH_at, LH_fault, LH_6, LH_7, hrow] at r1 ⊢
  refine AW.iconst (pc' := 5) dX5_next_4 ?_
  refine AW.icmp_ne (tgt := 19) (pc' := 8) dX5_next_5 (by first | assumption | omega | (constructor <;> omega) | (simp only [Int.toNat_natCast]; omega) | exact b2_in _) (by first | assumption | omega | (constructor <;> omega) | (simp only [Int.toNat_natCast]; omega) | exact b2_in _) (fun c5 => ?_) (fun c5 => ?_)
  · refine AW.iconst (pc' := 20) dX5_next_19 ?_
    refine AW.goto (tgt := 36) dX5_next_20 ?_
    try rw [show (Int32.ofInt (g (g 26 6).toNat s.1.toNat) &&& Int32.ofInt 255).toInt = b255 (TX g s.1.toNat) from rfl]
    refine AW.iret dX5_next_36 ?_ ?_
    · refine congrArg (fun z : Int => (some (vI z) : Option AV)) ?_
      unfold nx
      first | (rw [if_pos (by omega)]; done) | (rw [if_neg (by omega)])
    · rfl
  · refine AW.aload_n (pc' := 9) dX5_next_8 rfl ?_
    refine AW.getI (pc' := 12) dX5_next_9 ly_26 fX5_53 rfl (fun r9 => ?_)
    try simp only [LH_at, LH_fault, LH_6, LH_7, hrow] at r9 ⊢
    refine AW.aload_n (pc' := 13) dX5_next_12 rfl ?_
    refine AW.getI (pc' := 16) dX5_next_13 ly_26 fX5_50 rfl (fun r13 => ?_)
    try simp only [LH_at, LH_fault, LH_6, LH_7, hrow] at r13 ⊢
    refine AW.icmp_lt (tgt := 23) (pc' := 19) dX5_next_16 (by first | assumption | omega | (constructor <;> omega) | (simp only [Int.toNat_natCast]; omega) | exact b2_in _) (by first | assumption | omega | (constructor <;> omega) | (simp only [Int.toNat_natCast]; omega) | exact b2_in _) (fun c16 => ?_) (fun c16 => ?_)
    · refine AW.aload_n (pc' := 24) dX5_next_23 rfl ?_
      refine AW.getM (pc' := 27) dX5_next_24 ly_26 fX5_27 rfl ?_
      try simp only [LH_at, LH_fault, LH_6, LH_7, hrow] at ⊢
      refine AW.aload_n (pc' := 28) dX5_next_27 rfl ?_
      refine AW.getI (pc' := 31) dX5_next_28 ly_26 fX5_53 rfl (fun r28 => ?_)
      try simp only [LH_at, LH_fault, LH_6, LH_7, hrow] at r28 ⊢
      refine AW.bald (pc' := 32) dX5_next_31 hLt (by first | assumption | omega | (constructor <;> omega) | (simp only [Int.toNat_natCast]; omega) | exact b2_in _) (by first | assumption | omega | (constructor <;> omega) | (simp only [Int.toNat_natCast]; omega) | exact b2_in _) (by decide) (fun r31 => ?_)
      try simp only [LH_at, LH_fault, LH_6, LH_7, hrow] at r31 ⊢
      refine AW.sipush (pc' := 35) dX5_next_32 (by decide) ?_
      refine AW.iand (pc' := 36) dX5_next_35 ?_
      try rw [show (Int32.ofInt (g (g 26 6).toNat s.1.toNat) &&& Int32.ofInt 255).toInt = b255 (TX g s.1.toNat) from rfl]
      refine AW.iret dX5_next_36 ?_ ?_
      · refine congrArg (fun z : Int => (some (vI z) : Option AV)) ?_
        unfold nx
        first | (rw [if_pos (by omega)]; done) | (rw [if_neg (by omega)])
      · rfl
    · refine AW.iconst (pc' := 20) dX5_next_19 ?_
      refine AW.goto (tgt := 36) dX5_next_20 ?_
      try rw [show (Int32.ofInt (g (g 26 6).toNat s.1.toNat) &&& Int32.ofInt 255).toInt = b255 (TX g s.1.toNat) from rfl]
      refine AW.iret dX5_next_36 ?_ ?_
      · refine congrArg (fun z : Int => (some (vI z) : Option AV)) ?_
        unfold nx
        first | (rw [if_pos (by omega)]; done) | (rw [if_neg (by omega)])
      · rfl
set_option maxRecDepth 100000 in
set_option maxHeartbeats 4000000 in
theorem c_X5_passes {K : KT} {dep : Nat}  {g : Hp} {s : St} {a : Int} (hd : 1 ≤ dep) (hG : GI g) (hs : SI (g 26 7) s) (q2 : inI a) (qa : a ≠ -1) : AM K yX5_passes cX5_passes 2 (some .boolean) dep [vR 26, vI a] (LH g s) (some (vI (b2 (nx (TX g) (g 26 7) s = a)))) (LH g (psF (TX g) (g 26 7) a s)) := by
  refine AM.of (own := RX5) (ls := [some (vR 26), some (vI a)]) rfl (by decide +kernel) (by exact Nat.le_of_ble_eq_true rfl) rfl (fun hO => ?_)
  have hLt := hG.1
  have hrow : LH g s (g 26 6).toNat = g (g 26 6).toNat := LH_row g s hG.ne
  have hby : ∀ j, inB (TX g j) := fun j => by
    have := hO.bytes hG.1 j
    rwa [hrow] at this
  have e0 := hG.2.1
  have e1 := hG.2.2
  obtain ⟨s0, s1, s2, s3⟩ := hs
  have hs : SI (g 26 7) s := ⟨s0, s1, s2, s3⟩
  have nxi := nx_in (E := g 26 7) (s := s) hby
  refine AW.aload_n (pc' := 1) dX5_passes_0 rfl ?_
  refine AW.invV0 (pc' := 4) dX5_passes_1 mlX5_67 mX5_next ly_26 rfl (c_X5_next (dep := dep - 1) (by first | assumption | omega | (constructor <;> omega) | (simp only [Int.toNat_natCast]; omega) | exact b2_in _) (by first | assumption | omega | (constructor <;> omega) | (simp only [Int.toNat_natCast]; omega) | exact b2_in _)) ?_
  try simp only [Int.toNat_natCast, LH_at, LH_fault, LH_6, LH_7]
  refine AW.iload_n (pc' := 5) dX5_passes_4 rfl ?_
  refine AW.icmp_eq (tgt := 10) (pc' := 8) dX5_passes_5 (by first | assumption | omega | (constructor <;> omega) | (simp only [Int.toNat_natCast]; omega) | exact b2_in _) (by first | assumption | omega | (constructor <;> omega) | (simp only [Int.toNat_natCast]; omega) | exact b2_in _) (fun c5 => ?_) (fun c5 => ?_)
  · have nl := nx_lt c5 qa
    refine AW.aload_n (pc' := 11) dX5_passes_10 rfl ?_
    refine AW.dup (pc' := 12) dX5_passes_11 rfl ?_
    refine AW.getI (pc' := 15) dX5_passes_12 ly_26 fX5_53 rfl (fun r12 => ?_)
    try simp only [LH_at, LH_fault, LH_6, LH_7] at r12 ⊢
    try simp only [hset_app, Nat.reduceEqDiff, false_and, and_false, true_and, and_true, reduceIte] at r12 ⊢
    refine AW.iconst (pc' := 16) dX5_passes_15 ?_
    refine AW.iadd (pc' := 17) dX5_passes_16 ?_
    refine AW.putI (pc' := 20) dX5_passes_17 ly_26 pX5_53 rfl (by first | assumption | omega | (constructor <;> omega) | (simp only [Int.toNat_natCast]; omega) | exact b2_in _) ?_
    simp only [LH_pat]
    refine AW.iconst (pc' := 21) dX5_passes_20 ?_
    refine AW.zret dX5_passes_21 ?_ ?_ (by first | exact Or.inl rfl | exact Or.inr rfl | exact b2_01 _ | assumption | (subst_vars; omega))
    · first | exact congrArg (fun z : Int => (some (vI z) : Option AV)) (b2_t (by omega)) | exact congrArg (fun z : Int => (some (vI z) : Option AV)) (b2_f (by omega))
    · unfold psF
      first | (rw [if_pos (by omega)]; done) | (rw [if_neg (by omega)])
  · refine AW.iconst (pc' := 9) dX5_passes_8 ?_
    refine AW.zret dX5_passes_9 ?_ ?_ (by first | exact Or.inl rfl | exact Or.inr rfl | exact b2_01 _ | assumption | (subst_vars; omega))
    · first | exact congrArg (fun z : Int => (some (vI z) : Option AV)) (b2_t (by omega)) | exact congrArg (fun z : Int => (some (vI z) : Option AV)) (b2_f (by omega))
    · unfold psF
      first | (rw [if_pos (by omega)]; done) | (rw [if_neg (by omega)])
set_option maxRecDepth 100000 in
set_option maxHeartbeats 4000000 in
theorem c_X5_fail {K : KT} {dep : Nat}  {g : Hp} {s : St}  (hG : GI g) (hs : SI (g 26 7) s) : AM K yX5_fail cX5_fail 1 none dep [vR 26] (LH g s) none (LH g (flF s)) := by
  refine AM.of (own := RX5) (ls := [some (vR 26)]) rfl (by decide +kernel) (by exact Nat.le_of_ble_eq_true rfl) rfl (fun hO => ?_)
  have hLt := hG.1
  have hrow : LH g s (g 26 6).toNat = g (g 26 6).toNat := LH_row g s hG.ne
  have hby : ∀ j, inB (TX g j) := fun j => by
    have := hO.bytes hG.1 j
    rwa [hrow] at this
  have e0 := hG.2.1
  have e1 := hG.2.2
  obtain ⟨s0, s1, s2, s3⟩ := hs
  have hs : SI (g 26 7) s := ⟨s0, s1, s2, s3⟩
  refine AW.aload_n (pc' := 1) dX5_fail_0 rfl ?_
  refine AW.getI (pc' := 4) dX5_fail_1 ly_26 fX5_41 rfl (fun r1 => ?_)
  try simp only [LH_at, LH_fault, LH_6, LH_7] at r1 ⊢
  refine AW.iconst (pc' := 5) dX5_fail_4 ?_
  refine AW.icmp_ne (tgt := 16) (pc' := 8) dX5_fail_5 (by first | assumption | omega | (constructor <;> omega) | (simp only [Int.toNat_natCast]; omega) | exact b2_in _) (by first | assumption | omega | (constructor <;> omega) | (simp only [Int.toNat_natCast]; omega) | exact b2_in _) (fun c5 => ?_) (fun c5 => ?_)
  · try simp only [LH_pf]
    refine AW.vret dX5_fail_16 ?_ ?_
    · rfl
    · unfold flF
      first | (rw [if_pos (by omega)]; done) | (rw [if_neg (by omega)])
  · refine AW.aload_n (pc' := 9) dX5_fail_8 rfl ?_
    refine AW.aload_n (pc' := 10) dX5_fail_9 rfl ?_
    refine AW.getI (pc' := 13) dX5_fail_10 ly_26 fX5_53 rfl (fun r10 => ?_)
    try simp only [LH_at, LH_fault, LH_6, LH_7] at r10 ⊢
    refine AW.putI (pc' := 16) dX5_fail_13 ly_26 pX5_41 rfl (by first | assumption | omega | (constructor <;> omega) | (simp only [Int.toNat_natCast]; omega) | exact b2_in _) ?_
    try simp only [LH_pf]
    refine AW.vret dX5_fail_16 ?_ ?_
    · rfl
    · unfold flF
      first | (rw [if_pos (by omega)]; done) | (rw [if_neg (by omega)])
set_option maxRecDepth 100000 in
set_option maxHeartbeats 4000000 in
theorem c_X5_isDigit {K : KT} {dep : Nat} {h : Hp} {a : Int}  (q0 : inI a) : AM K yX5_isDigit cX5_isDigit 1 (some .boolean) dep [vI a] h (some (vI (b2 (48 ≤ a ∧ a ≤ 57)))) (h) := by
  refine AM.of (own := RX5) (ls := [some (vI a)]) rfl (by decide +kernel) (by exact Nat.le_of_ble_eq_true rfl) rfl (fun hO => ?_)
  refine AW.iload_n (pc' := 1) dX5_isDigit_0 rfl ?_
  refine AW.bipush (pc' := 3) dX5_isDigit_1 (by decide) ?_
  refine AW.icmp_lt (tgt := 16) (pc' := 6) dX5_isDigit_3 (by first | assumption | omega | (constructor <;> omega) | (simp only [Int.toNat_natCast]; omega) | exact b2_in _) (by first | assumption | omega | (constructor <;> omega) | (simp only [Int.toNat_natCast]; omega) | exact b2_in _) (fun c3 => ?_) (fun c3 => ?_)
  · refine AW.iconst (pc' := 17) dX5_isDigit_16 ?_
    refine AW.zret dX5_isDigit_17 ?_ ?_ (by first | exact Or.inl rfl | exact Or.inr rfl | exact b2_01 _ | assumption | (subst_vars; omega))
    all_goals first | rfl | exact congrArg (fun z : Int => (some (vI z) : Option AV)) (b2_t (by omega)) | exact congrArg (fun z : Int => (some (vI z) : Option AV)) (b2_f (by omega)) | ((repeat' split) <;> first | rfl | omega) | (refine congrArg (fun z : Int => (some (vI z) : Option AV)) ?_; (repeat' split) <;> first | rfl | omega)
  · refine AW.iload_n (pc' := 7) dX5_isDigit_6 rfl ?_
    refine AW.bipush (pc' := 9) dX5_isDigit_7 (by decide) ?_
    refine AW.icmp_gt (tgt := 16) (pc' := 12) dX5_isDigit_9 (by first | assumption | omega | (constructor <;> omega) | (simp only [Int.toNat_natCast]; omega) | exact b2_in _) (by first | assumption | omega | (constructor <;> omega) | (simp only [Int.toNat_natCast]; omega) | exact b2_in _) (fun c9 => ?_) (fun c9 => ?_)
    · refine AW.iconst (pc' := 17) dX5_isDigit_16 ?_
      refine AW.zret dX5_isDigit_17 ?_ ?_ (by first | exact Or.inl rfl | exact Or.inr rfl | exact b2_01 _ | assumption | (subst_vars; omega))
      all_goals first | rfl | exact congrArg (fun z : Int => (some (vI z) : Option AV)) (b2_t (by omega)) | exact congrArg (fun z : Int => (some (vI z) : Option AV)) (b2_f (by omega)) | ((repeat' split) <;> first | rfl | omega) | (refine congrArg (fun z : Int => (some (vI z) : Option AV)) ?_; (repeat' split) <;> first | rfl | omega)
    · refine AW.iconst (pc' := 13) dX5_isDigit_12 ?_
      refine AW.goto (tgt := 17) dX5_isDigit_13 ?_
      refine AW.zret dX5_isDigit_17 ?_ ?_ (by first | exact Or.inl rfl | exact Or.inr rfl | exact b2_01 _ | assumption | (subst_vars; omega))
      all_goals first | rfl | exact congrArg (fun z : Int => (some (vI z) : Option AV)) (b2_t (by omega)) | exact congrArg (fun z : Int => (some (vI z) : Option AV)) (b2_f (by omega)) | ((repeat' split) <;> first | rfl | omega) | (refine congrArg (fun z : Int => (some (vI z) : Option AV)) ?_; (repeat' split) <;> first | rfl | omega)
set_option maxRecDepth 100000 in
set_option maxHeartbeats 4000000 in
theorem lp_X5_number {K : KT}  {dep : Nat} {g : Hp} (hG : GI g) (hby : ∀ j, inB (TX g j)) (hd : 1 ≤ dep) : ∀ (n k : Nat) (v : Int) (s : St), k + n = 4 → SI (g 26 7) s → AW K (XM K (some (vI (nuF (TX g) (g 26 7) n v s).1)) (LH g (nuF (TX g) (g 26 7) n v s).2)) RX5 cX5_number 3 (some .int) dep 4 [some (vR 26), some (vI (v)), some (vI ((k : Int)))] [] (LH g s) := by
  intro n
  induction n with
  | zero =>
    intro k v s hk hs
    refine AW.iload_n (pc' := 5) dX5_number_4 rfl ?_
    refine AW.iconst (pc' := 6) dX5_number_5 ?_
    refine AW.icmp_ge (tgt := 48) (pc' := 9) dX5_number_6 (by first | assumption | omega | (constructor <;> omega) | (simp only [Int.toNat_natCast]; omega) | exact b2_in _) (by first | assumption | omega | (constructor <;> omega) | (simp only [Int.toNat_natCast]; omega) | exact b2_in _) (fun c6 => ?_) (fun c6 => ?_)
    · refine AW.iload_n (pc' := 49) dX5_number_48 rfl ?_
      refine AW.iret dX5_number_49 ?_ ?_
      · rfl
      · rfl
    · omega
  | succ n ih =>
    intro k v s hk hs
    obtain ⟨s0, s1, s2, s3⟩ := hs
    have hs : SI (g 26 7) s := ⟨s0, s1, s2, s3⟩
    have nxi := nx_in (E := g 26 7) (s := s) hby
    have e1 := hG.2.2
    refine AW.iload_n (pc' := 5) dX5_number_4 rfl ?_
    refine AW.iconst (pc' := 6) dX5_number_5 ?_
    refine AW.icmp_ge (tgt := 48) (pc' := 9) dX5_number_6 (by first | assumption | omega | (constructor <;> omega) | (simp only [Int.toNat_natCast]; omega) | exact b2_in _) (by first | assumption | omega | (constructor <;> omega) | (simp only [Int.toNat_natCast]; omega) | exact b2_in _) (fun c6 => ?_) (fun c6 => ?_)
    · omega
    · refine AW.aload_n (pc' := 10) dX5_number_9 rfl ?_
      refine AW.invV0 (pc' := 13) dX5_number_10 mlX5_67 mX5_next ly_26 rfl (c_X5_next (dep := dep - 1) (by first | assumption | omega | (constructor <;> omega) | (simp only [Int.toNat_natCast]; omega) | exact b2_in _) (by first | assumption | omega | (constructor <;> omega) | (simp only [Int.toNat_natCast]; omega) | exact b2_in _)) ?_
      try simp only [Int.toNat_natCast, LH_at, LH_fault, LH_6, LH_7]
      refine AW.invS1 (pc' := 16) dX5_number_13 mlX5_86 mX5_isDigit (c_X5_isDigit (dep := dep - 1) (by first | assumption | omega | (constructor <;> omega) | (simp only [Int.toNat_natCast]; omega) | exact b2_in _)) ?_
      try simp only [Int.toNat_natCast, LH_at, LH_fault, LH_6, LH_7]
      refine AW.ifb_eq (tgt := 48) (pc' := 19) dX5_number_16 (fun c16 => ?_) (fun c16 => ?_)
      · refine AW.iload_n (pc' := 49) dX5_number_48 rfl ?_
        refine AW.iret dX5_number_49 ?_ ?_
        · refine congrArg (fun z : Int => (some (vI z) : Option AV)) ?_
          unfold nuF
          rw [if_neg c16]
        · unfold nuF
          rw [if_neg c16]
      · have nl := nx_lt (T := TX g) (E := g 26 7) (s := s) rfl (by omega)
        refine AW.bipush (pc' := 21) dX5_number_19 (by decide) ?_
        refine AW.iload_n (pc' := 22) dX5_number_21 rfl ?_
        refine AW.imul (pc' := 23) dX5_number_22 ?_
        refine AW.aload_n (pc' := 24) dX5_number_23 rfl ?_
        refine AW.invV0 (pc' := 27) dX5_number_24 mlX5_67 mX5_next ly_26 rfl (c_X5_next (dep := dep - 1) (by first | assumption | omega | (constructor <;> omega) | (simp only [Int.toNat_natCast]; omega) | exact b2_in _) (by first | assumption | omega | (constructor <;> omega) | (simp only [Int.toNat_natCast]; omega) | exact b2_in _)) ?_
        try simp only [Int.toNat_natCast, LH_at, LH_fault, LH_6, LH_7]
        refine AW.iadd (pc' := 28) dX5_number_27 ?_
        refine AW.bipush (pc' := 30) dX5_number_28 (by decide) ?_
        refine AW.isub (pc' := 31) dX5_number_30 ?_
        refine AW.istore1n (pc' := 32) dX5_number_31 (by decide) rfl ?_
        refine AW.aload_n (pc' := 33) dX5_number_32 rfl ?_
        refine AW.dup (pc' := 34) dX5_number_33 rfl ?_
        refine AW.getI (pc' := 37) dX5_number_34 ly_26 fX5_53 rfl (fun r34 => ?_)
        try simp only [LH_at, LH_fault, LH_6, LH_7] at r34 ⊢
        try simp only [hset_app, Nat.reduceEqDiff, false_and, and_false, true_and, and_true, reduceIte] at r34 ⊢
        refine AW.iconst (pc' := 38) dX5_number_37 ?_
        refine AW.iadd (pc' := 39) dX5_number_38 ?_
        refine AW.putI (pc' := 42) dX5_number_39 ly_26 pX5_53 rfl (by first | assumption | omega | (constructor <;> omega) | (simp only [Int.toNat_natCast]; omega) | exact b2_in _) ?_
        simp only [LH_pat]
        refine AW.iinc2 (pc' := 45) dX5_number_42 (by decide) rfl ?_
        refine AW.goto (tgt := 4) dX5_number_45 ?_
        have z : nuF (TX g) (g 26 7) (n + 1) v s = nuF (TX g) (g 26 7) n (10 * v + nx (TX g) (g 26 7) s - 48) (s.1 + 1, s.2) := by
          conv => lhs; unfold nuF
          rw [if_pos c16]
        rw [z]
        exact AW.weak (ih (k + 1) _ _ (by omega) (hs.next (T := TX g) rfl (by omega))) (by (repeat' first | exact LSub.e | refine LSub.n ?_ | refine LSub.c ?_ ?_) <;> first | rfl | exact congrArg Sum.inl (by first | rfl | omega | (push_cast; omega)) | exact congrArg (fun z : Int => (vL z : AV)) (by first | rfl | omega | (push_cast; omega)))
set_option maxRecDepth 100000 in
set_option maxHeartbeats 4000000 in
theorem c_X5_number {K : KT} {dep : Nat}  {g : Hp} {s : St} (hd : 1 ≤ dep) (hG : GI g) (hs : SI (g 26 7) s) : AM K yX5_number cX5_number 3 (some .int) dep [vR 26] (LH g s) (some (vI (nuF (TX g) (g 26 7) 4 0 s).1)) (LH g (nuF (TX g) (g 26 7) 4 0 s).2) := by
  refine AM.of (own := RX5) (ls := [some (vR 26), none, none]) rfl (by decide +kernel) (by exact Nat.le_of_ble_eq_true rfl) rfl (fun hO => ?_)
  have hLt := hG.1
  have hrow : LH g s (g 26 6).toNat = g (g 26 6).toNat := LH_row g s hG.ne
  have hby : ∀ j, inB (TX g j) := fun j => by
    have := hO.bytes hG.1 j
    rwa [hrow] at this
  have e0 := hG.2.1
  have e1 := hG.2.2
  obtain ⟨s0, s1, s2, s3⟩ := hs
  have hs : SI (g 26 7) s := ⟨s0, s1, s2, s3⟩
  refine AW.iconst (pc' := 1) dX5_number_0 ?_
  refine AW.istore1n (pc' := 2) dX5_number_1 (by decide) rfl ?_
  refine AW.iconst (pc' := 3) dX5_number_2 ?_
  refine AW.istore2n (pc' := 4) dX5_number_3 (by decide) rfl ?_
  exact AW.weak (lp_X5_number hG hby hd 4 0 0 s rfl hs) (by (repeat' first | exact LSub.e | refine LSub.n ?_ | refine LSub.c ?_ ?_) <;> first | rfl | exact congrArg Sum.inl (by first | rfl | omega | omega) | exact congrArg (fun z : Int => (vL z : AV)) (by first | rfl | omega | omega))
set_option maxRecDepth 100000 in
set_option maxHeartbeats 4000000 in
theorem lp_X5_product {K : KT}  {dep : Nat} {g : Hp} {o : Int} {pf : PF} {d : Nat} (hG : GI g) (hby : ∀ j, inB (TX g j)) (hC : PC K g yX5_single cX5_single 5 d o pf) (hK : PK (g 26 7) pf) (hde : d + 1 ≤ dep) (hd : 2 ≤ dep) : ∀ (n k : Nat) (v : Int) (s : St), k + n = 120 → inI v → SI (g 26 7) s → AW K (XM K (some (vI (pdL (TX g) (g 26 7) pf n v s).1)) (LH g (pdL (TX g) (g 26 7) pf n v s).2)) RX5 cX5_product 5 (some .int) dep 8 [some (vR 26), some (vI (o)), some (vI (v)), some (vI ((k : Int))), none] [] (LH g s) := by
  intro n
  induction n with
  | zero =>
    intro k v s hk hv hs
    refine AW.iload_n (pc' := 9) dX5_product_8 rfl ?_
    refine AW.bipush (pc' := 11) dX5_product_9 (by decide) ?_
    refine AW.icmp_ge (tgt := 103) (pc' := 14) dX5_product_11 (by first | assumption | omega | (constructor <;> omega) | (simp only [Int.toNat_natCast]; omega) | exact b2_in _) (by first | assumption | omega | (constructor <;> omega) | (simp only [Int.toNat_natCast]; omega) | exact b2_in _) (fun c11 => ?_) (fun c11 => ?_)
    · refine AW.iload_n (pc' := 104) dX5_product_103 rfl ?_
      refine AW.iret dX5_product_104 ?_ ?_
      · rfl
      · rfl
    · omega
  | succ n ih =>
    intro k v s hk hv hs
    obtain ⟨s0, s1, s2, s3⟩ := hs
    have hs : SI (g 26 7) s := ⟨s0, s1, s2, s3⟩
    have nxi := nx_in (E := g 26 7) (s := s) hby
    have e1 := hG.2.2
    refine AW.iload_n (pc' := 9) dX5_product_8 rfl ?_
    refine AW.bipush (pc' := 11) dX5_product_9 (by decide) ?_
    refine AW.icmp_ge (tgt := 103) (pc' := 14) dX5_product_11 (by first | assumption | omega | (constructor <;> omega) | (simp only [Int.toNat_natCast]; omega) | exact b2_in _) (by first | assumption | omega | (constructor <;> omega) | (simp only [Int.toNat_natCast]; omega) | exact b2_in _) (fun c11 => ?_) (fun c11 => ?_)
    · omega
    · refine AW.aload_n (pc' := 15) dX5_product_14 rfl ?_
      refine AW.bipush (pc' := 17) dX5_product_15 (by decide) ?_
      refine AW.invV1 (pc' := 20) dX5_product_17 mlX5_60 mX5_passes ly_26 rfl (c_X5_passes (dep := dep - 1) (by first | assumption | omega | (constructor <;> omega) | (simp only [Int.toNat_natCast]; omega) | exact b2_in _) (by first | assumption | omega | (constructor <;> omega) | (simp only [Int.toNat_natCast]; omega) | exact b2_in _) (by first | assumption | omega | (constructor <;> omega) | (simp only [Int.toNat_natCast]; omega) | exact b2_in _) (by first | assumption | omega | (constructor <;> omega) | (simp only [Int.toNat_natCast]; omega) | exact b2_in _) (by first | assumption | omega | (constructor <;> omega) | (simp only [Int.toNat_natCast]; omega) | exact b2_in _)) ?_
      try simp only [Int.toNat_natCast, LH_at, LH_fault, LH_6, LH_7]
      refine AW.ifb_eq (tgt := 34) (pc' := 23) dX5_product_20 (fun c20 => ?_) (fun c20 => ?_)
      · have p20 : psF (TX g) (g 26 7) 42 s = s := by unfold psF; rw [if_neg c20]
        rw [p20]
        refine AW.aload_n (pc' := 35) dX5_product_34 rfl ?_
        refine AW.bipush (pc' := 37) dX5_product_35 (by decide) ?_
        refine AW.invV1 (pc' := 40) dX5_product_37 mlX5_60 mX5_passes ly_26 rfl (c_X5_passes (dep := dep - 1) (by first | assumption | omega | (constructor <;> omega) | (simp only [Int.toNat_natCast]; omega) | exact b2_in _) (by first | assumption | omega | (constructor <;> omega) | (simp only [Int.toNat_natCast]; omega) | exact b2_in _) (by first | assumption | omega | (constructor <;> omega) | (simp only [Int.toNat_natCast]; omega) | exact b2_in _) (by first | assumption | omega | (constructor <;> omega) | (simp only [Int.toNat_natCast]; omega) | exact b2_in _) (by first | assumption | omega | (constructor <;> omega) | (simp only [Int.toNat_natCast]; omega) | exact b2_in _)) ?_
        try simp only [Int.toNat_natCast, LH_at, LH_fault, LH_6, LH_7]
        refine AW.ifb_eq (tgt := 67) (pc' := 43) dX5_product_40 (fun c40 => ?_) (fun c40 => ?_)
        · have p40 : psF (TX g) (g 26 7) 47 s = s := by unfold psF; rw [if_neg c40]
          rw [p40]
          refine AW.aload_n (pc' := 68) dX5_product_67 rfl ?_
          refine AW.bipush (pc' := 70) dX5_product_68 (by decide) ?_
          refine AW.invV1 (pc' := 73) dX5_product_70 mlX5_60 mX5_passes ly_26 rfl (c_X5_passes (dep := dep - 1) (by first | assumption | omega | (constructor <;> omega) | (simp only [Int.toNat_natCast]; omega) | exact b2_in _) (by first | assumption | omega | (constructor <;> omega) | (simp only [Int.toNat_natCast]; omega) | exact b2_in _) (by first | assumption | omega | (constructor <;> omega) | (simp only [Int.toNat_natCast]; omega) | exact b2_in _) (by first | assumption | omega | (constructor <;> omega) | (simp only [Int.toNat_natCast]; omega) | exact b2_in _) (by first | assumption | omega | (constructor <;> omega) | (simp only [Int.toNat_natCast]; omega) | exact b2_in _)) ?_
          try simp only [Int.toNat_natCast, LH_at, LH_fault, LH_6, LH_7]
          refine AW.ifb_eq (tgt := 103) (pc' := 76) dX5_product_73 (fun c73 => ?_) (fun c73 => ?_)
          · have p73 : psF (TX g) (g 26 7) 37 s = s := by unfold psF; rw [if_neg c73]
            rw [p73]
            refine AW.iload_n (pc' := 104) dX5_product_103 rfl ?_
            refine AW.iret dX5_product_104 ?_ ?_
            · refine congrArg (fun z : Int => (some (vI z) : Option AV)) ?_
              unfold pdL
              rw [if_neg c20, if_neg c40, if_neg c73]
            · unfold pdL
              rw [if_neg c20, if_neg c40, if_neg c73]
          · have p73 : psF (TX g) (g 26 7) 37 s = (s.1 + 1, s.2) := by unfold psF; rw [if_pos c73]
            rw [p73]
            have n73 := hs.next c73 (by decide)
            refine AW.aload_n (pc' := 77) dX5_product_76 rfl ?_
            refine AW.iload_n (pc' := 78) dX5_product_77 rfl ?_
            refine AW.invV1 (pc' := 81) dX5_product_78 mlX5_83 mX5_single ly_26 rfl (hC (s.1 + 1, s.2) n73) ?_
            try simp only [Int.toNat_natCast, LH_at, LH_fault, LH_6, LH_7]
            have ki := (hK _ n73).1
            refine AW.istore4 (pc' := 83) dX5_product_81 (by decide) rfl ?_
            refine AW.iload (pc' := 85) dX5_product_83 rfl ?_
            refine AW.if_ne (tgt := 92) (pc' := 88) dX5_product_85 (by first | assumption | omega | (constructor <;> omega) | (simp only [Int.toNat_natCast]; omega) | exact b2_in _) (fun c85 => ?_) (fun c85 => ?_)
            · refine AW.iload_n (pc' := 93) dX5_product_92 rfl ?_
              refine AW.iload (pc' := 95) dX5_product_93 rfl ?_
              refine AW.irem (pc' := 96) dX5_product_95 (by first | assumption | omega | (constructor <;> omega) | (simp only [Int.toNat_natCast]; omega) | exact b2_in _) (by first | assumption | omega | (constructor <;> omega) | (simp only [Int.toNat_natCast]; omega) | exact b2_in _) (by first | assumption | omega | (constructor <;> omega) | (simp only [Int.toNat_natCast]; omega) | exact b2_in _) ?_
              first | refine AW.top (b := rmF v (pf (s.1 + 1, s.2)).1) (by unfold rmF; rw [if_pos (by omega)]) ?_ | refine AW.cong (b := rmF v (pf (s.1 + 1, s.2)).1) (by unfold rmF; rw [if_neg (by omega)]; exact wr_of _) ?_
              refine AW.istore2n (pc' := 97) dX5_product_96 (by decide) rfl ?_
              refine AW.iinc3 (pc' := 100) dX5_product_97 (by decide) rfl ?_
              refine AW.goto (tgt := 8) dX5_product_100 ?_
              first
              | (have z : pdL (TX g) (g 26 7) pf (n + 1) v s = pdL (TX g) (g 26 7) pf n (wr (v * (pf (s.1 + 1, s.2)).1)) (pf (s.1 + 1, s.2)).2 := by
                   conv => lhs; unfold pdL
                   rw [if_pos c20]
                 rw [z]
                 exact AW.weak (ih (k + 1) _ _ (by omega) (wr_in _) (hK _ n20).2) (by (repeat' first | exact LSub.e | refine LSub.n ?_ | refine LSub.c ?_ ?_) <;> first | rfl | exact congrArg Sum.inl (by first | rfl | omega | (push_cast; omega)) | exact congrArg (fun z : Int => (vL z : AV)) (by first | rfl | omega | (push_cast; omega))))
              | (have z : pdL (TX g) (g 26 7) pf (n + 1) v s = pdL (TX g) (g 26 7) pf n (dvF v (pf (s.1 + 1, s.2)).1) (pf (s.1 + 1, s.2)).2 := by
                   conv => lhs; unfold pdL
                   rw [if_neg c20, if_pos c40]
                 rw [z]
                 exact AW.weak (ih (k + 1) _ _ (by omega) (dvF_in _ _) (hK _ n40).2) (by (repeat' first | exact LSub.e | refine LSub.n ?_ | refine LSub.c ?_ ?_) <;> first | rfl | exact congrArg Sum.inl (by first | rfl | omega | (push_cast; omega)) | exact congrArg (fun z : Int => (vL z : AV)) (by first | rfl | omega | (push_cast; omega))))
              | (have z : pdL (TX g) (g 26 7) pf (n + 1) v s = pdL (TX g) (g 26 7) pf n (rmF v (pf (s.1 + 1, s.2)).1) (pf (s.1 + 1, s.2)).2 := by
                   conv => lhs; unfold pdL
                   rw [if_neg c20, if_neg c40, if_pos c73]
                 rw [z]
                 exact AW.weak (ih (k + 1) _ _ (by omega) (rmF_in _ _) (hK _ n73).2) (by (repeat' first | exact LSub.e | refine LSub.n ?_ | refine LSub.c ?_ ?_) <;> first | rfl | exact congrArg Sum.inl (by first | rfl | omega | (push_cast; omega)) | exact congrArg (fun z : Int => (vL z : AV)) (by first | rfl | omega | (push_cast; omega))))
            · refine AW.iconst (pc' := 89) dX5_product_88 ?_
              refine AW.goto (tgt := 96) dX5_product_89 ?_
              first | refine AW.top (b := rmF v (pf (s.1 + 1, s.2)).1) (by unfold rmF; rw [if_pos (by omega)]) ?_ | refine AW.cong (b := rmF v (pf (s.1 + 1, s.2)).1) (by unfold rmF; rw [if_neg (by omega)]; exact wr_of _) ?_
              refine AW.istore2n (pc' := 97) dX5_product_96 (by decide) rfl ?_
              refine AW.iinc3 (pc' := 100) dX5_product_97 (by decide) rfl ?_
              refine AW.goto (tgt := 8) dX5_product_100 ?_
              first
              | (have z : pdL (TX g) (g 26 7) pf (n + 1) v s = pdL (TX g) (g 26 7) pf n (wr (v * (pf (s.1 + 1, s.2)).1)) (pf (s.1 + 1, s.2)).2 := by
                   conv => lhs; unfold pdL
                   rw [if_pos c20]
                 rw [z]
                 exact AW.weak (ih (k + 1) _ _ (by omega) (wr_in _) (hK _ n20).2) (by (repeat' first | exact LSub.e | refine LSub.n ?_ | refine LSub.c ?_ ?_) <;> first | rfl | exact congrArg Sum.inl (by first | rfl | omega | (push_cast; omega)) | exact congrArg (fun z : Int => (vL z : AV)) (by first | rfl | omega | (push_cast; omega))))
              | (have z : pdL (TX g) (g 26 7) pf (n + 1) v s = pdL (TX g) (g 26 7) pf n (dvF v (pf (s.1 + 1, s.2)).1) (pf (s.1 + 1, s.2)).2 := by
                   conv => lhs; unfold pdL
                   rw [if_neg c20, if_pos c40]
                 rw [z]
                 exact AW.weak (ih (k + 1) _ _ (by omega) (dvF_in _ _) (hK _ n40).2) (by (repeat' first | exact LSub.e | refine LSub.n ?_ | refine LSub.c ?_ ?_) <;> first | rfl | exact congrArg Sum.inl (by first | rfl | omega | (push_cast; omega)) | exact congrArg (fun z : Int => (vL z : AV)) (by first | rfl | omega | (push_cast; omega))))
              | (have z : pdL (TX g) (g 26 7) pf (n + 1) v s = pdL (TX g) (g 26 7) pf n (rmF v (pf (s.1 + 1, s.2)).1) (pf (s.1 + 1, s.2)).2 := by
                   conv => lhs; unfold pdL
                   rw [if_neg c20, if_neg c40, if_pos c73]
                 rw [z]
                 exact AW.weak (ih (k + 1) _ _ (by omega) (rmF_in _ _) (hK _ n73).2) (by (repeat' first | exact LSub.e | refine LSub.n ?_ | refine LSub.c ?_ ?_) <;> first | rfl | exact congrArg Sum.inl (by first | rfl | omega | (push_cast; omega)) | exact congrArg (fun z : Int => (vL z : AV)) (by first | rfl | omega | (push_cast; omega))))
        · have p40 : psF (TX g) (g 26 7) 47 s = (s.1 + 1, s.2) := by unfold psF; rw [if_pos c40]
          rw [p40]
          have n40 := hs.next c40 (by decide)
          refine AW.aload_n (pc' := 44) dX5_product_43 rfl ?_
          refine AW.iload_n (pc' := 45) dX5_product_44 rfl ?_
          refine AW.invV1 (pc' := 48) dX5_product_45 mlX5_83 mX5_single ly_26 rfl (hC (s.1 + 1, s.2) n40) ?_
          try simp only [Int.toNat_natCast, LH_at, LH_fault, LH_6, LH_7]
          have ki := (hK _ n40).1
          refine AW.istore4 (pc' := 50) dX5_product_48 (by decide) rfl ?_
          refine AW.iload (pc' := 52) dX5_product_50 rfl ?_
          refine AW.if_ne (tgt := 59) (pc' := 55) dX5_product_52 (by first | assumption | omega | (constructor <;> omega) | (simp only [Int.toNat_natCast]; omega) | exact b2_in _) (fun c52 => ?_) (fun c52 => ?_)
          · refine AW.iload_n (pc' := 60) dX5_product_59 rfl ?_
            refine AW.iload (pc' := 62) dX5_product_60 rfl ?_
            refine AW.idiv (pc' := 63) dX5_product_62 (by first | assumption | omega | (constructor <;> omega) | (simp only [Int.toNat_natCast]; omega) | exact b2_in _) (by first | assumption | omega | (constructor <;> omega) | (simp only [Int.toNat_natCast]; omega) | exact b2_in _) (by first | assumption | omega | (constructor <;> omega) | (simp only [Int.toNat_natCast]; omega) | exact b2_in _) ?_
            first | refine AW.top (b := dvF v (pf (s.1 + 1, s.2)).1) (by unfold dvF; rw [if_pos (by omega)]) ?_ | refine AW.cong (b := dvF v (pf (s.1 + 1, s.2)).1) (by unfold dvF; rw [if_neg (by omega)]; exact wr_of _) ?_
            refine AW.istore2n (pc' := 64) dX5_product_63 (by decide) rfl ?_
            refine AW.goto (tgt := 97) dX5_product_64 ?_
            refine AW.iinc3 (pc' := 100) dX5_product_97 (by decide) rfl ?_
            refine AW.goto (tgt := 8) dX5_product_100 ?_
            first
            | (have z : pdL (TX g) (g 26 7) pf (n + 1) v s = pdL (TX g) (g 26 7) pf n (wr (v * (pf (s.1 + 1, s.2)).1)) (pf (s.1 + 1, s.2)).2 := by
                 conv => lhs; unfold pdL
                 rw [if_pos c20]
               rw [z]
               exact AW.weak (ih (k + 1) _ _ (by omega) (wr_in _) (hK _ n20).2) (by (repeat' first | exact LSub.e | refine LSub.n ?_ | refine LSub.c ?_ ?_) <;> first | rfl | exact congrArg Sum.inl (by first | rfl | omega | (push_cast; omega)) | exact congrArg (fun z : Int => (vL z : AV)) (by first | rfl | omega | (push_cast; omega))))
            | (have z : pdL (TX g) (g 26 7) pf (n + 1) v s = pdL (TX g) (g 26 7) pf n (dvF v (pf (s.1 + 1, s.2)).1) (pf (s.1 + 1, s.2)).2 := by
                 conv => lhs; unfold pdL
                 rw [if_neg c20, if_pos c40]
               rw [z]
               exact AW.weak (ih (k + 1) _ _ (by omega) (dvF_in _ _) (hK _ n40).2) (by (repeat' first | exact LSub.e | refine LSub.n ?_ | refine LSub.c ?_ ?_) <;> first | rfl | exact congrArg Sum.inl (by first | rfl | omega | (push_cast; omega)) | exact congrArg (fun z : Int => (vL z : AV)) (by first | rfl | omega | (push_cast; omega))))
            | (have z : pdL (TX g) (g 26 7) pf (n + 1) v s = pdL (TX g) (g 26 7) pf n (rmF v (pf (s.1 + 1, s.2)).1) (pf (s.1 + 1, s.2)).2 := by
                 conv => lhs; unfold pdL
                 rw [if_neg c20, if_neg c40, if_pos c73]
               rw [z]
               exact AW.weak (ih (k + 1) _ _ (by omega) (rmF_in _ _) (hK _ n73).2) (by (repeat' first | exact LSub.e | refine LSub.n ?_ | refine LSub.c ?_ ?_) <;> first | rfl | exact congrArg Sum.inl (by first | rfl | omega | (push_cast; omega)) | exact congrArg (fun z : Int => (vL z : AV)) (by first | rfl | omega | (push_cast; omega))))
          · refine AW.iconst (pc' := 56) dX5_product_55 ?_
            refine AW.goto (tgt := 63) dX5_product_56 ?_
            first | refine AW.top (b := dvF v (pf (s.1 + 1, s.2)).1) (by unfold dvF; rw [if_pos (by omega)]) ?_ | refine AW.cong (b := dvF v (pf (s.1 + 1, s.2)).1) (by unfold dvF; rw [if_neg (by omega)]; exact wr_of _) ?_
            refine AW.istore2n (pc' := 64) dX5_product_63 (by decide) rfl ?_
            refine AW.goto (tgt := 97) dX5_product_64 ?_
            refine AW.iinc3 (pc' := 100) dX5_product_97 (by decide) rfl ?_
            refine AW.goto (tgt := 8) dX5_product_100 ?_
            first
            | (have z : pdL (TX g) (g 26 7) pf (n + 1) v s = pdL (TX g) (g 26 7) pf n (wr (v * (pf (s.1 + 1, s.2)).1)) (pf (s.1 + 1, s.2)).2 := by
                 conv => lhs; unfold pdL
                 rw [if_pos c20]
               rw [z]
               exact AW.weak (ih (k + 1) _ _ (by omega) (wr_in _) (hK _ n20).2) (by (repeat' first | exact LSub.e | refine LSub.n ?_ | refine LSub.c ?_ ?_) <;> first | rfl | exact congrArg Sum.inl (by first | rfl | omega | (push_cast; omega)) | exact congrArg (fun z : Int => (vL z : AV)) (by first | rfl | omega | (push_cast; omega))))
            | (have z : pdL (TX g) (g 26 7) pf (n + 1) v s = pdL (TX g) (g 26 7) pf n (dvF v (pf (s.1 + 1, s.2)).1) (pf (s.1 + 1, s.2)).2 := by
                 conv => lhs; unfold pdL
                 rw [if_neg c20, if_pos c40]
               rw [z]
               exact AW.weak (ih (k + 1) _ _ (by omega) (dvF_in _ _) (hK _ n40).2) (by (repeat' first | exact LSub.e | refine LSub.n ?_ | refine LSub.c ?_ ?_) <;> first | rfl | exact congrArg Sum.inl (by first | rfl | omega | (push_cast; omega)) | exact congrArg (fun z : Int => (vL z : AV)) (by first | rfl | omega | (push_cast; omega))))
            | (have z : pdL (TX g) (g 26 7) pf (n + 1) v s = pdL (TX g) (g 26 7) pf n (rmF v (pf (s.1 + 1, s.2)).1) (pf (s.1 + 1, s.2)).2 := by
                 conv => lhs; unfold pdL
                 rw [if_neg c20, if_neg c40, if_pos c73]
               rw [z]
               exact AW.weak (ih (k + 1) _ _ (by omega) (rmF_in _ _) (hK _ n73).2) (by (repeat' first | exact LSub.e | refine LSub.n ?_ | refine LSub.c ?_ ?_) <;> first | rfl | exact congrArg Sum.inl (by first | rfl | omega | (push_cast; omega)) | exact congrArg (fun z : Int => (vL z : AV)) (by first | rfl | omega | (push_cast; omega))))
      · have p20 : psF (TX g) (g 26 7) 42 s = (s.1 + 1, s.2) := by unfold psF; rw [if_pos c20]
        rw [p20]
        have n20 := hs.next c20 (by decide)
        refine AW.iload_n (pc' := 24) dX5_product_23 rfl ?_
        refine AW.aload_n (pc' := 25) dX5_product_24 rfl ?_
        refine AW.iload_n (pc' := 26) dX5_product_25 rfl ?_
        refine AW.invV1 (pc' := 29) dX5_product_26 mlX5_83 mX5_single ly_26 rfl (hC (s.1 + 1, s.2) n20) ?_
        try simp only [Int.toNat_natCast, LH_at, LH_fault, LH_6, LH_7]
        refine AW.imul (pc' := 30) dX5_product_29 ?_
        refine AW.cong (b := wr (v * (pf (s.1 + 1, s.2)).1)) (wr_of _) ?_
        have wi := wr_in (v * (pf (s.1 + 1, s.2)).1)
        refine AW.istore2n (pc' := 31) dX5_product_30 (by decide) rfl ?_
        refine AW.goto (tgt := 97) dX5_product_31 ?_
        refine AW.iinc3 (pc' := 100) dX5_product_97 (by decide) rfl ?_
        refine AW.goto (tgt := 8) dX5_product_100 ?_
        first
        | (have z : pdL (TX g) (g 26 7) pf (n + 1) v s = pdL (TX g) (g 26 7) pf n (wr (v * (pf (s.1 + 1, s.2)).1)) (pf (s.1 + 1, s.2)).2 := by
             conv => lhs; unfold pdL
             rw [if_pos c20]
           rw [z]
           exact AW.weak (ih (k + 1) _ _ (by omega) (wr_in _) (hK _ n20).2) (by (repeat' first | exact LSub.e | refine LSub.n ?_ | refine LSub.c ?_ ?_) <;> first | rfl | exact congrArg Sum.inl (by first | rfl | omega | (push_cast; omega)) | exact congrArg (fun z : Int => (vL z : AV)) (by first | rfl | omega | (push_cast; omega))))
        | (have z : pdL (TX g) (g 26 7) pf (n + 1) v s = pdL (TX g) (g 26 7) pf n (dvF v (pf (s.1 + 1, s.2)).1) (pf (s.1 + 1, s.2)).2 := by
             conv => lhs; unfold pdL
             rw [if_neg c20, if_pos c40]
           rw [z]
           exact AW.weak (ih (k + 1) _ _ (by omega) (dvF_in _ _) (hK _ n40).2) (by (repeat' first | exact LSub.e | refine LSub.n ?_ | refine LSub.c ?_ ?_) <;> first | rfl | exact congrArg Sum.inl (by first | rfl | omega | (push_cast; omega)) | exact congrArg (fun z : Int => (vL z : AV)) (by first | rfl | omega | (push_cast; omega))))
        | (have z : pdL (TX g) (g 26 7) pf (n + 1) v s = pdL (TX g) (g 26 7) pf n (rmF v (pf (s.1 + 1, s.2)).1) (pf (s.1 + 1, s.2)).2 := by
             conv => lhs; unfold pdL
             rw [if_neg c20, if_neg c40, if_pos c73]
           rw [z]
           exact AW.weak (ih (k + 1) _ _ (by omega) (rmF_in _ _) (hK _ n73).2) (by (repeat' first | exact LSub.e | refine LSub.n ?_ | refine LSub.c ?_ ?_) <;> first | rfl | exact congrArg Sum.inl (by first | rfl | omega | (push_cast; omega)) | exact congrArg (fun z : Int => (vL z : AV)) (by first | rfl | omega | (push_cast; omega))))
set_option maxRecDepth 100000 in
set_option maxHeartbeats 4000000 in
theorem c_X5_product {K : KT} {dep : Nat}  {g : Hp} {s : St} {o : Int} {pf : PF} {d : Nat} (hd : 2 ≤ dep) (hG : GI g) (hs : SI (g 26 7) s) (hC : PC K g yX5_single cX5_single 5 d o pf) (hK : PK (g 26 7) pf) (hde : d + 1 ≤ dep) : AM K yX5_product cX5_product 5 (some .int) dep [vR 26, vI o] (LH g s) (some (vI (pdF (TX g) (g 26 7) pf s).1)) (LH g (pdF (TX g) (g 26 7) pf s).2) := by
  refine AM.of (own := RX5) (ls := [some (vR 26), some (vI o), none, none, none]) rfl (by decide +kernel) (by exact Nat.le_of_ble_eq_true rfl) rfl (fun hO => ?_)
  have hLt := hG.1
  have hrow : LH g s (g 26 6).toNat = g (g 26 6).toNat := LH_row g s hG.ne
  have hby : ∀ j, inB (TX g j) := fun j => by
    have := hO.bytes hG.1 j
    rwa [hrow] at this
  have e0 := hG.2.1
  have e1 := hG.2.2
  obtain ⟨s0, s1, s2, s3⟩ := hs
  have hs : SI (g 26 7) s := ⟨s0, s1, s2, s3⟩
  refine AW.aload_n (pc' := 1) dX5_product_0 rfl ?_
  refine AW.iload_n (pc' := 2) dX5_product_1 rfl ?_
  refine AW.invV1 (pc' := 5) dX5_product_2 mlX5_83 mX5_single ly_26 rfl (hC s hs) ?_
  refine AW.istore2n (pc' := 6) dX5_product_5 (by decide) rfl ?_
  refine AW.iconst (pc' := 7) dX5_product_6 ?_
  refine AW.istore3n (pc' := 8) dX5_product_7 (by decide) rfl ?_
  exact AW.weak (lp_X5_product hG hby hC hK hde hd 120 0 _ _ rfl (hK s hs).1 (hK s hs).2) (by (repeat' first | exact LSub.e | refine LSub.n ?_ | refine LSub.c ?_ ?_) <;> first | rfl | exact congrArg Sum.inl (by first | rfl | omega | omega) | exact congrArg (fun z : Int => (vL z : AV)) (by first | rfl | omega | omega))
set_option maxRecDepth 100000 in
set_option maxHeartbeats 4000000 in
theorem lp_X5_sum {K : KT}  {dep : Nat} {g : Hp} {o : Int} {pf : PF} {d : Nat} (hG : GI g) (hby : ∀ j, inB (TX g j)) (hC : PC K g yX5_product cX5_product 5 d o pf) (hK : PK (g 26 7) pf) (hde : d + 1 ≤ dep) (hd : 2 ≤ dep) : ∀ (n k : Nat) (v : Int) (s : St), k + n = 120 → inI v → SI (g 26 7) s → AW K (XM K (some (vI (smL (TX g) (g 26 7) pf n v s).1)) (LH g (smL (TX g) (g 26 7) pf n v s).2)) RX5 cX5_sum 4 (some .int) dep 8 [some (vR 26), some (vI (o)), some (vI (v)), some (vI ((k : Int)))] [] (LH g s) := by
  intro n
  induction n with
  | zero =>
    intro k v s hk hv hs
    refine AW.iload_n (pc' := 9) dX5_sum_8 rfl ?_
    refine AW.bipush (pc' := 11) dX5_sum_9 (by decide) ?_
    refine AW.icmp_ge (tgt := 57) (pc' := 14) dX5_sum_11 (by first | assumption | omega | (constructor <;> omega) | (simp only [Int.toNat_natCast]; omega) | exact b2_in _) (by first | assumption | omega | (constructor <;> omega) | (simp only [Int.toNat_natCast]; omega) | exact b2_in _) (fun c11 => ?_) (fun c11 => ?_)
    · refine AW.iload_n (pc' := 58) dX5_sum_57 rfl ?_
      refine AW.iret dX5_sum_58 ?_ ?_
      · rfl
      · rfl
    · omega
  | succ n ih =>
    intro k v s hk hv hs
    obtain ⟨s0, s1, s2, s3⟩ := hs
    have hs : SI (g 26 7) s := ⟨s0, s1, s2, s3⟩
    have nxi := nx_in (E := g 26 7) (s := s) hby
    have e1 := hG.2.2
    refine AW.iload_n (pc' := 9) dX5_sum_8 rfl ?_
    refine AW.bipush (pc' := 11) dX5_sum_9 (by decide) ?_
    refine AW.icmp_ge (tgt := 57) (pc' := 14) dX5_sum_11 (by first | assumption | omega | (constructor <;> omega) | (simp only [Int.toNat_natCast]; omega) | exact b2_in _) (by first | assumption | omega | (constructor <;> omega) | (simp only [Int.toNat_natCast]; omega) | exact b2_in _) (fun c11 => ?_) (fun c11 => ?_)
    · omega
    · refine AW.aload_n (pc' := 15) dX5_sum_14 rfl ?_
      refine AW.bipush (pc' := 17) dX5_sum_15 (by decide) ?_
      refine AW.invV1 (pc' := 20) dX5_sum_17 mlX5_60 mX5_passes ly_26 rfl (c_X5_passes (dep := dep - 1) (by first | assumption | omega | (constructor <;> omega) | (simp only [Int.toNat_natCast]; omega) | exact b2_in _) (by first | assumption | omega | (constructor <;> omega) | (simp only [Int.toNat_natCast]; omega) | exact b2_in _) (by first | assumption | omega | (constructor <;> omega) | (simp only [Int.toNat_natCast]; omega) | exact b2_in _) (by first | assumption | omega | (constructor <;> omega) | (simp only [Int.toNat_natCast]; omega) | exact b2_in _) (by first | assumption | omega | (constructor <;> omega) | (simp only [Int.toNat_natCast]; omega) | exact b2_in _)) ?_
      try simp only [Int.toNat_natCast, LH_at, LH_fault, LH_6, LH_7]
      refine AW.ifb_eq (tgt := 34) (pc' := 23) dX5_sum_20 (fun c20 => ?_) (fun c20 => ?_)
      · have p20 : psF (TX g) (g 26 7) 43 s = s := by unfold psF; rw [if_neg c20]
        rw [p20]
        refine AW.aload_n (pc' := 35) dX5_sum_34 rfl ?_
        refine AW.bipush (pc' := 37) dX5_sum_35 (by decide) ?_
        refine AW.invV1 (pc' := 40) dX5_sum_37 mlX5_60 mX5_passes ly_26 rfl (c_X5_passes (dep := dep - 1) (by first | assumption | omega | (constructor <;> omega) | (simp only [Int.toNat_natCast]; omega) | exact b2_in _) (by first | assumption | omega | (constructor <;> omega) | (simp only [Int.toNat_natCast]; omega) | exact b2_in _) (by first | assumption | omega | (constructor <;> omega) | (simp only [Int.toNat_natCast]; omega) | exact b2_in _) (by first | assumption | omega | (constructor <;> omega) | (simp only [Int.toNat_natCast]; omega) | exact b2_in _) (by first | assumption | omega | (constructor <;> omega) | (simp only [Int.toNat_natCast]; omega) | exact b2_in _)) ?_
        try simp only [Int.toNat_natCast, LH_at, LH_fault, LH_6, LH_7]
        refine AW.ifb_eq (tgt := 57) (pc' := 43) dX5_sum_40 (fun c40 => ?_) (fun c40 => ?_)
        · have p40 : psF (TX g) (g 26 7) 45 s = s := by unfold psF; rw [if_neg c40]
          rw [p40]
          refine AW.iload_n (pc' := 58) dX5_sum_57 rfl ?_
          refine AW.iret dX5_sum_58 ?_ ?_
          · refine congrArg (fun z : Int => (some (vI z) : Option AV)) ?_
            unfold smL
            rw [if_neg c20, if_neg c40]
          · unfold smL
            rw [if_neg c20, if_neg c40]
        · have p40 : psF (TX g) (g 26 7) 45 s = (s.1 + 1, s.2) := by unfold psF; rw [if_pos c40]
          rw [p40]
          have n40 := hs.next c40 (by decide)
          refine AW.iload_n (pc' := 44) dX5_sum_43 rfl ?_
          refine AW.aload_n (pc' := 45) dX5_sum_44 rfl ?_
          refine AW.iload_n (pc' := 46) dX5_sum_45 rfl ?_
          refine AW.invV1 (pc' := 49) dX5_sum_46 mlX5_80 mX5_product ly_26 rfl (hC (s.1 + 1, s.2) n40) ?_
          try simp only [Int.toNat_natCast, LH_at, LH_fault, LH_6, LH_7]
          refine AW.isub (pc' := 50) dX5_sum_49 ?_
          refine AW.cong (b := wr (v - (pf (s.1 + 1, s.2)).1)) (wr_of _) ?_
          have wi := wr_in (v - (pf (s.1 + 1, s.2)).1)
          refine AW.istore2n (pc' := 51) dX5_sum_50 (by decide) rfl ?_
          refine AW.iinc3 (pc' := 54) dX5_sum_51 (by decide) rfl ?_
          refine AW.goto (tgt := 8) dX5_sum_54 ?_
          first
          | (have z : smL (TX g) (g 26 7) pf (n + 1) v s = smL (TX g) (g 26 7) pf n (wr (v + (pf (s.1 + 1, s.2)).1)) (pf (s.1 + 1, s.2)).2 := by
               conv => lhs; unfold smL
               rw [if_pos c20]
             rw [z]
             exact AW.weak (ih (k + 1) _ _ (by omega) (wr_in _) (hK _ n20).2) (by (repeat' first | exact LSub.e | refine LSub.n ?_ | refine LSub.c ?_ ?_) <;> first | rfl | exact congrArg Sum.inl (by first | rfl | omega | (push_cast; omega)) | exact congrArg (fun z : Int => (vL z : AV)) (by first | rfl | omega | (push_cast; omega))))
          | (have z : smL (TX g) (g 26 7) pf (n + 1) v s = smL (TX g) (g 26 7) pf n (wr (v - (pf (s.1 + 1, s.2)).1)) (pf (s.1 + 1, s.2)).2 := by
               conv => lhs; unfold smL
               rw [if_neg c20, if_pos c40]
             rw [z]
             exact AW.weak (ih (k + 1) _ _ (by omega) (wr_in _) (hK _ n40).2) (by (repeat' first | exact LSub.e | refine LSub.n ?_ | refine LSub.c ?_ ?_) <;> first | rfl | exact congrArg Sum.inl (by first | rfl | omega | (push_cast; omega)) | exact congrArg (fun z : Int => (vL z : AV)) (by first | rfl | omega | (push_cast; omega))))
      · have p20 : psF (TX g) (g 26 7) 43 s = (s.1 + 1, s.2) := by unfold psF; rw [if_pos c20]
        rw [p20]
        have n20 := hs.next c20 (by decide)
        refine AW.iload_n (pc' := 24) dX5_sum_23 rfl ?_
        refine AW.aload_n (pc' := 25) dX5_sum_24 rfl ?_
        refine AW.iload_n (pc' := 26) dX5_sum_25 rfl ?_
        refine AW.invV1 (pc' := 29) dX5_sum_26 mlX5_80 mX5_product ly_26 rfl (hC (s.1 + 1, s.2) n20) ?_
        try simp only [Int.toNat_natCast, LH_at, LH_fault, LH_6, LH_7]
        refine AW.iadd (pc' := 30) dX5_sum_29 ?_
        refine AW.cong (b := wr (v + (pf (s.1 + 1, s.2)).1)) (wr_of _) ?_
        have wi := wr_in (v + (pf (s.1 + 1, s.2)).1)
        refine AW.istore2n (pc' := 31) dX5_sum_30 (by decide) rfl ?_
        refine AW.goto (tgt := 51) dX5_sum_31 ?_
        refine AW.iinc3 (pc' := 54) dX5_sum_51 (by decide) rfl ?_
        refine AW.goto (tgt := 8) dX5_sum_54 ?_
        first
        | (have z : smL (TX g) (g 26 7) pf (n + 1) v s = smL (TX g) (g 26 7) pf n (wr (v + (pf (s.1 + 1, s.2)).1)) (pf (s.1 + 1, s.2)).2 := by
             conv => lhs; unfold smL
             rw [if_pos c20]
           rw [z]
           exact AW.weak (ih (k + 1) _ _ (by omega) (wr_in _) (hK _ n20).2) (by (repeat' first | exact LSub.e | refine LSub.n ?_ | refine LSub.c ?_ ?_) <;> first | rfl | exact congrArg Sum.inl (by first | rfl | omega | (push_cast; omega)) | exact congrArg (fun z : Int => (vL z : AV)) (by first | rfl | omega | (push_cast; omega))))
        | (have z : smL (TX g) (g 26 7) pf (n + 1) v s = smL (TX g) (g 26 7) pf n (wr (v - (pf (s.1 + 1, s.2)).1)) (pf (s.1 + 1, s.2)).2 := by
             conv => lhs; unfold smL
             rw [if_neg c20, if_pos c40]
           rw [z]
           exact AW.weak (ih (k + 1) _ _ (by omega) (wr_in _) (hK _ n40).2) (by (repeat' first | exact LSub.e | refine LSub.n ?_ | refine LSub.c ?_ ?_) <;> first | rfl | exact congrArg Sum.inl (by first | rfl | omega | (push_cast; omega)) | exact congrArg (fun z : Int => (vL z : AV)) (by first | rfl | omega | (push_cast; omega))))
def smG (T : Nat → Int) (E : Int) (b : PF) : PF := fun s => smL T E b 120 (b s).1 (b s).2
def anG (T : Nat → Int) (E : Int) (b : PF) : PF := fun s => anL T E b 120 (b s).1 (b s).2
def orG (T : Nat → Int) (E : Int) (b : PF) : PF := fun s => orL T E b 120 (b s).1 (b s).2
set_option maxRecDepth 100000 in
set_option maxHeartbeats 4000000 in
theorem c_X5_sum {K : KT} {dep : Nat}  {g : Hp} {s : St} {o : Int} {pf : PF} {d : Nat} (hd : 2 ≤ dep) (hG : GI g) (hs : SI (g 26 7) s) (hC : PC K g yX5_product cX5_product 5 d o pf) (hK : PK (g 26 7) pf) (hde : d + 1 ≤ dep) : AM K yX5_sum cX5_sum 4 (some .int) dep [vR 26, vI o] (LH g s) (some (vI (smG (TX g) (g 26 7) pf s).1)) (LH g (smG (TX g) (g 26 7) pf s).2) := by
  refine AM.of (own := RX5) (ls := [some (vR 26), some (vI o), none, none]) rfl (by decide +kernel) (by exact Nat.le_of_ble_eq_true rfl) rfl (fun hO => ?_)
  have hLt := hG.1
  have hrow : LH g s (g 26 6).toNat = g (g 26 6).toNat := LH_row g s hG.ne
  have hby : ∀ j, inB (TX g j) := fun j => by
    have := hO.bytes hG.1 j
    rwa [hrow] at this
  have e0 := hG.2.1
  have e1 := hG.2.2
  obtain ⟨s0, s1, s2, s3⟩ := hs
  have hs : SI (g 26 7) s := ⟨s0, s1, s2, s3⟩
  refine AW.aload_n (pc' := 1) dX5_sum_0 rfl ?_
  refine AW.iload_n (pc' := 2) dX5_sum_1 rfl ?_
  refine AW.invV1 (pc' := 5) dX5_sum_2 mlX5_80 mX5_product ly_26 rfl (hC s hs) ?_
  refine AW.istore2n (pc' := 6) dX5_sum_5 (by decide) rfl ?_
  refine AW.iconst (pc' := 7) dX5_sum_6 ?_
  refine AW.istore3n (pc' := 8) dX5_sum_7 (by decide) rfl ?_
  exact AW.weak (lp_X5_sum hG hby hC hK hde hd 120 0 _ _ rfl (hK s hs).1 (hK s hs).2) (by (repeat' first | exact LSub.e | refine LSub.n ?_ | refine LSub.c ?_ ?_) <;> first | rfl | exact congrArg Sum.inl (by first | rfl | omega | omega) | exact congrArg (fun z : Int => (vL z : AV)) (by first | rfl | omega | omega))
set_option maxRecDepth 100000 in
set_option maxHeartbeats 4000000 in
theorem c_X5_compared {K : KT} {dep : Nat}  {g : Hp} {s : St} {o : Int} {pf : PF} {d : Nat} (hd : 2 ≤ dep) (hG : GI g) (hs : SI (g 26 7) s) (hC : PC K g yX5_sum cX5_sum 4 d o pf) (hK : PK (g 26 7) pf) (hde : d + 1 ≤ dep) : AM K yX5_compared cX5_compared 3 (some .int) dep [vR 26, vI o] (LH g s) (some (vI (cmF (TX g) (g 26 7) pf s).1)) (LH g (cmF (TX g) (g 26 7) pf s).2) := by
  refine AM.of (own := RX5) (ls := [some (vR 26), some (vI o), none]) rfl (by decide +kernel) (by exact Nat.le_of_ble_eq_true rfl) rfl (fun hO => ?_)
  have hLt := hG.1
  have hrow : LH g s (g 26 6).toNat = g (g 26 6).toNat := LH_row g s hG.ne
  have hby : ∀ j, inB (TX g j) := fun j => by
    have := hO.bytes hG.1 j
    rwa [hrow] at this
  have e0 := hG.2.1
  have e1 := hG.2.2
  obtain ⟨s0, s1, s2, s3⟩ := hs
  have hs : SI (g 26 7) s := ⟨s0, s1, s2, s3⟩
  refine AW.aload_n (pc' := 1) dX5_compared_0 rfl ?_
  refine AW.iload_n (pc' := 2) dX5_compared_1 rfl ?_
  refine AW.invV1 (pc' := 5) dX5_compared_2 mlX5_77 mX5_sum ly_26 rfl (hC s hs) ?_
  try simp only [Int.toNat_natCast, LH_at, LH_fault, LH_6, LH_7]
  refine AW.istore2n (pc' := 6) dX5_compared_5 (by decide) rfl ?_
  have k1 := (hK s hs).1
  have k2 := (hK s hs).2
  refine AW.aload_n (pc' := 7) dX5_compared_6 rfl ?_
  refine AW.bipush (pc' := 9) dX5_compared_7 (by decide) ?_
  refine AW.invV1 (pc' := 12) dX5_compared_9 mlX5_60 mX5_passes ly_26 rfl (c_X5_passes (dep := dep - 1) (by omega) hG (hK s hs).2 (by decide) (by decide)) ?_
  try simp only [Int.toNat_natCast, LH_at, LH_fault, LH_6, LH_7]
  refine AW.ifb_eq (tgt := 30) (pc' := 15) dX5_compared_12 (fun c12 => ?_) (fun c12 => ?_)
  · have p12 : psF (TX g) (g 26 7) 60 (pf s).2 = (pf s).2 := by unfold psF; rw [if_neg c12]
    rw [p12]
    refine AW.aload_n (pc' := 31) dX5_compared_30 rfl ?_
    refine AW.bipush (pc' := 33) dX5_compared_31 (by decide) ?_
    refine AW.invV1 (pc' := 36) dX5_compared_33 mlX5_60 mX5_passes ly_26 rfl (c_X5_passes (dep := dep - 1) (by omega) hG (hK s hs).2 (by decide) (by decide)) ?_
    try simp only [Int.toNat_natCast, LH_at, LH_fault, LH_6, LH_7]
    refine AW.ifb_eq (tgt := 54) (pc' := 39) dX5_compared_36 (fun c36 => ?_) (fun c36 => ?_)
    · have p36 : psF (TX g) (g 26 7) 61 (pf s).2 = (pf s).2 := by unfold psF; rw [if_neg c36]
      rw [p36]
      refine AW.aload_n (pc' := 55) dX5_compared_54 rfl ?_
      refine AW.bipush (pc' := 57) dX5_compared_55 (by decide) ?_
      refine AW.invV1 (pc' := 60) dX5_compared_57 mlX5_60 mX5_passes ly_26 rfl (c_X5_passes (dep := dep - 1) (by omega) hG (hK s hs).2 (by decide) (by decide)) ?_
      try simp only [Int.toNat_natCast, LH_at, LH_fault, LH_6, LH_7]
      refine AW.ifb_eq (tgt := 78) (pc' := 63) dX5_compared_60 (fun c60 => ?_) (fun c60 => ?_)
      · have p60 : psF (TX g) (g 26 7) 62 (pf s).2 = (pf s).2 := by unfold psF; rw [if_neg c60]
        rw [p60]
        refine AW.iload_n (pc' := 79) dX5_compared_78 rfl ?_
        refine AW.iret dX5_compared_79 ?_ ?_
        · refine congrArg (fun z : Int => (some (vI z) : Option AV)) ?_
          unfold cmF
          rw [if_neg c12, if_neg c36, if_neg c60]
          try first | (rw [b2_t (by omega)]; done) | (rw [b2_f (by omega)]; done) | rfl
        · unfold cmF
          rw [if_neg c12, if_neg c36, if_neg c60]
      · have p60 : psF (TX g) (g 26 7) 62 (pf s).2 = ((pf s).2.1 + 1, (pf s).2.2) := by unfold psF; rw [if_pos c60]
        rw [p60]
        have n60 := (hK s hs).2.next c60 (by decide)
        refine AW.iload_n (pc' := 64) dX5_compared_63 rfl ?_
        refine AW.aload_n (pc' := 65) dX5_compared_64 rfl ?_
        refine AW.iload_n (pc' := 66) dX5_compared_65 rfl ?_
        refine AW.invV1 (pc' := 69) dX5_compared_66 mlX5_77 mX5_sum ly_26 rfl (hC ((pf s).2.1 + 1, (pf s).2.2) n60) ?_
        try simp only [Int.toNat_natCast, LH_at, LH_fault, LH_6, LH_7]
        have k3 := (hK _ n60).1
        refine AW.icmp_le (tgt := 76) (pc' := 72) dX5_compared_69 (by first | assumption | omega | (constructor <;> omega) | (simp only [Int.toNat_natCast]; omega) | exact b2_in _) (by first | assumption | omega | (constructor <;> omega) | (simp only [Int.toNat_natCast]; omega) | exact b2_in _) (fun c69 => ?_) (fun c69 => ?_)
        · refine AW.iconst (pc' := 77) dX5_compared_76 ?_
          refine AW.iret dX5_compared_77 ?_ ?_
          · refine congrArg (fun z : Int => (some (vI z) : Option AV)) ?_
            unfold cmF
            rw [if_neg c12, if_neg c36, if_pos c60]
            try first | (rw [b2_t (by omega)]; done) | (rw [b2_f (by omega)]; done) | rfl
          · unfold cmF
            rw [if_neg c12, if_neg c36, if_pos c60]
        · refine AW.iconst (pc' := 73) dX5_compared_72 ?_
          refine AW.goto (tgt := 77) dX5_compared_73 ?_
          refine AW.iret dX5_compared_77 ?_ ?_
          · refine congrArg (fun z : Int => (some (vI z) : Option AV)) ?_
            unfold cmF
            rw [if_neg c12, if_neg c36, if_pos c60]
            try first | (rw [b2_t (by omega)]; done) | (rw [b2_f (by omega)]; done) | rfl
          · unfold cmF
            rw [if_neg c12, if_neg c36, if_pos c60]
    · have p36 : psF (TX g) (g 26 7) 61 (pf s).2 = ((pf s).2.1 + 1, (pf s).2.2) := by unfold psF; rw [if_pos c36]
      rw [p36]
      have n36 := (hK s hs).2.next c36 (by decide)
      refine AW.iload_n (pc' := 40) dX5_compared_39 rfl ?_
      refine AW.aload_n (pc' := 41) dX5_compared_40 rfl ?_
      refine AW.iload_n (pc' := 42) dX5_compared_41 rfl ?_
      refine AW.invV1 (pc' := 45) dX5_compared_42 mlX5_77 mX5_sum ly_26 rfl (hC ((pf s).2.1 + 1, (pf s).2.2) n36) ?_
      try simp only [Int.toNat_natCast, LH_at, LH_fault, LH_6, LH_7]
      have k3 := (hK _ n36).1
      refine AW.icmp_ne (tgt := 52) (pc' := 48) dX5_compared_45 (by first | assumption | omega | (constructor <;> omega) | (simp only [Int.toNat_natCast]; omega) | exact b2_in _) (by first | assumption | omega | (constructor <;> omega) | (simp only [Int.toNat_natCast]; omega) | exact b2_in _) (fun c45 => ?_) (fun c45 => ?_)
      · refine AW.iconst (pc' := 53) dX5_compared_52 ?_
        refine AW.iret dX5_compared_53 ?_ ?_
        · refine congrArg (fun z : Int => (some (vI z) : Option AV)) ?_
          unfold cmF
          rw [if_neg c12, if_pos c36]
          try first | (rw [b2_t (by omega)]; done) | (rw [b2_f (by omega)]; done) | rfl
        · unfold cmF
          rw [if_neg c12, if_pos c36]
      · refine AW.iconst (pc' := 49) dX5_compared_48 ?_
        refine AW.goto (tgt := 53) dX5_compared_49 ?_
        refine AW.iret dX5_compared_53 ?_ ?_
        · refine congrArg (fun z : Int => (some (vI z) : Option AV)) ?_
          unfold cmF
          rw [if_neg c12, if_pos c36]
          try first | (rw [b2_t (by omega)]; done) | (rw [b2_f (by omega)]; done) | rfl
        · unfold cmF
          rw [if_neg c12, if_pos c36]
  · have p12 : psF (TX g) (g 26 7) 60 (pf s).2 = ((pf s).2.1 + 1, (pf s).2.2) := by unfold psF; rw [if_pos c12]
    rw [p12]
    have n12 := (hK s hs).2.next c12 (by decide)
    refine AW.iload_n (pc' := 16) dX5_compared_15 rfl ?_
    refine AW.aload_n (pc' := 17) dX5_compared_16 rfl ?_
    refine AW.iload_n (pc' := 18) dX5_compared_17 rfl ?_
    refine AW.invV1 (pc' := 21) dX5_compared_18 mlX5_77 mX5_sum ly_26 rfl (hC ((pf s).2.1 + 1, (pf s).2.2) n12) ?_
    try simp only [Int.toNat_natCast, LH_at, LH_fault, LH_6, LH_7]
    have k3 := (hK _ n12).1
    refine AW.icmp_ge (tgt := 28) (pc' := 24) dX5_compared_21 (by first | assumption | omega | (constructor <;> omega) | (simp only [Int.toNat_natCast]; omega) | exact b2_in _) (by first | assumption | omega | (constructor <;> omega) | (simp only [Int.toNat_natCast]; omega) | exact b2_in _) (fun c21 => ?_) (fun c21 => ?_)
    · refine AW.iconst (pc' := 29) dX5_compared_28 ?_
      refine AW.iret dX5_compared_29 ?_ ?_
      · refine congrArg (fun z : Int => (some (vI z) : Option AV)) ?_
        unfold cmF
        rw [if_pos c12]
        try first | (rw [b2_t (by omega)]; done) | (rw [b2_f (by omega)]; done) | rfl
      · unfold cmF
        rw [if_pos c12]
    · refine AW.iconst (pc' := 25) dX5_compared_24 ?_
      refine AW.goto (tgt := 29) dX5_compared_25 ?_
      refine AW.iret dX5_compared_29 ?_ ?_
      · refine congrArg (fun z : Int => (some (vI z) : Option AV)) ?_
        unfold cmF
        rw [if_pos c12]
        try first | (rw [b2_t (by omega)]; done) | (rw [b2_f (by omega)]; done) | rfl
      · unfold cmF
        rw [if_pos c12]
set_option maxRecDepth 100000 in
set_option maxHeartbeats 4000000 in
theorem lp_X5_both {K : KT}  {dep : Nat} {g : Hp} {o : Int} {pf : PF} {d : Nat} (hG : GI g) (hby : ∀ j, inB (TX g j)) (hC : PC K g yX5_compared cX5_compared 3 d o pf) (hK : PK (g 26 7) pf) (hde : d + 1 ≤ dep) (hd : 2 ≤ dep) : ∀ (n k : Nat) (v : Int) (s : St), k + n = 120 → inI v → SI (g 26 7) s → AW K (XM K (some (vI (anL (TX g) (g 26 7) pf n v s).1)) (LH g (anL (TX g) (g 26 7) pf n v s).2)) RX5 cX5_both 5 (some .int) dep 8 [some (vR 26), some (vI (o)), some (vI (v)), some (vI ((k : Int))), none] [] (LH g s) := by
  intro n
  induction n with
  | zero =>
    intro k v s hk hv hs
    refine AW.iload_n (pc' := 9) dX5_both_8 rfl ?_
    refine AW.bipush (pc' := 11) dX5_both_9 (by decide) ?_
    refine AW.icmp_ge (tgt := 51) (pc' := 14) dX5_both_11 (by first | assumption | omega | (constructor <;> omega) | (simp only [Int.toNat_natCast]; omega) | exact b2_in _) (by first | assumption | omega | (constructor <;> omega) | (simp only [Int.toNat_natCast]; omega) | exact b2_in _) (fun c11 => ?_) (fun c11 => ?_)
    · refine AW.iload_n (pc' := 52) dX5_both_51 rfl ?_
      refine AW.iret dX5_both_52 ?_ ?_
      · rfl
      · rfl
    · omega
  | succ n ih =>
    intro k v s hk hv hs
    obtain ⟨s0, s1, s2, s3⟩ := hs
    have hs : SI (g 26 7) s := ⟨s0, s1, s2, s3⟩
    have nxi := nx_in (E := g 26 7) (s := s) hby
    have e1 := hG.2.2
    refine AW.iload_n (pc' := 9) dX5_both_8 rfl ?_
    refine AW.bipush (pc' := 11) dX5_both_9 (by decide) ?_
    refine AW.icmp_ge (tgt := 51) (pc' := 14) dX5_both_11 (by first | assumption | omega | (constructor <;> omega) | (simp only [Int.toNat_natCast]; omega) | exact b2_in _) (by first | assumption | omega | (constructor <;> omega) | (simp only [Int.toNat_natCast]; omega) | exact b2_in _) (fun c11 => ?_) (fun c11 => ?_)
    · omega
    · refine AW.aload_n (pc' := 15) dX5_both_14 rfl ?_
      refine AW.bipush (pc' := 17) dX5_both_15 (by decide) ?_
      refine AW.invV1 (pc' := 20) dX5_both_17 mlX5_60 mX5_passes ly_26 rfl (c_X5_passes (dep := dep - 1) (by first | assumption | omega | (constructor <;> omega) | (simp only [Int.toNat_natCast]; omega) | exact b2_in _) (by first | assumption | omega | (constructor <;> omega) | (simp only [Int.toNat_natCast]; omega) | exact b2_in _) (by first | assumption | omega | (constructor <;> omega) | (simp only [Int.toNat_natCast]; omega) | exact b2_in _) (by first | assumption | omega | (constructor <;> omega) | (simp only [Int.toNat_natCast]; omega) | exact b2_in _) (by first | assumption | omega | (constructor <;> omega) | (simp only [Int.toNat_natCast]; omega) | exact b2_in _)) ?_
      try simp only [Int.toNat_natCast, LH_at, LH_fault, LH_6, LH_7]
      refine AW.ifb_eq (tgt := 51) (pc' := 23) dX5_both_20 (fun c20 => ?_) (fun c20 => ?_)
      · have p20 : psF (TX g) (g 26 7) 38 s = s := by unfold psF; rw [if_neg c20]
        rw [p20]
        refine AW.iload_n (pc' := 52) dX5_both_51 rfl ?_
        refine AW.iret dX5_both_52 ?_ ?_
        · refine congrArg (fun z : Int => (some (vI z) : Option AV)) ?_
          unfold anL
          rw [if_neg c20]
        · unfold anL
          rw [if_neg c20]
      · have p20 : psF (TX g) (g 26 7) 38 s = (s.1 + 1, s.2) := by unfold psF; rw [if_pos c20]
        rw [p20]
        have n20 := hs.next c20 (by decide)
        refine AW.aload_n (pc' := 24) dX5_both_23 rfl ?_
        refine AW.iload_n (pc' := 25) dX5_both_24 rfl ?_
        refine AW.invV1 (pc' := 28) dX5_both_25 mlX5_74 mX5_compared ly_26 rfl (hC (s.1 + 1, s.2) n20) ?_
        try simp only [Int.toNat_natCast, LH_at, LH_fault, LH_6, LH_7]
        have ki := (hK _ n20).1
        refine AW.istore4 (pc' := 30) dX5_both_28 (by decide) rfl ?_
        refine AW.iload_n (pc' := 31) dX5_both_30 rfl ?_
        refine AW.if_eq (tgt := 43) (pc' := 34) dX5_both_31 (by first | assumption | omega | (constructor <;> omega) | (simp only [Int.toNat_natCast]; omega) | exact b2_in _) (fun c31 => ?_) (fun c31 => ?_)
        · refine AW.iconst (pc' := 44) dX5_both_43 ?_
          refine AW.top (b := b2 (v ≠ 0 ∧ (pf (s.1 + 1, s.2)).1 ≠ 0)) (by first | (rw [b2_t (by omega)]; done) | (rw [b2_f (by omega)]; done)) ?_
          refine AW.istore2n (pc' := 45) dX5_both_44 (by decide) rfl ?_
          refine AW.iinc3 (pc' := 48) dX5_both_45 (by decide) rfl ?_
          refine AW.goto (tgt := 8) dX5_both_48 ?_
          have z : anL (TX g) (g 26 7) pf (n + 1) v s = anL (TX g) (g 26 7) pf n (b2 (v ≠ 0 ∧ (pf (s.1 + 1, s.2)).1 ≠ 0)) (pf (s.1 + 1, s.2)).2 := by
            conv => lhs; unfold anL
            rw [if_pos c20]
          rw [z]
          exact AW.weak (ih (k + 1) _ _ (by omega) (b2_in _) (hK _ n20).2) (by (repeat' first | exact LSub.e | refine LSub.n ?_ | refine LSub.c ?_ ?_) <;> first | rfl | exact congrArg Sum.inl (by first | rfl | omega | (push_cast; omega)) | exact congrArg (fun z : Int => (vL z : AV)) (by first | rfl | omega | (push_cast; omega)))
        · refine AW.iload (pc' := 36) dX5_both_34 rfl ?_
          refine AW.if_eq (tgt := 43) (pc' := 39) dX5_both_36 (by first | assumption | omega | (constructor <;> omega) | (simp only [Int.toNat_natCast]; omega) | exact b2_in _) (fun c36 => ?_) (fun c36 => ?_)
          · refine AW.iconst (pc' := 44) dX5_both_43 ?_
            refine AW.top (b := b2 (v ≠ 0 ∧ (pf (s.1 + 1, s.2)).1 ≠ 0)) (by first | (rw [b2_t (by omega)]; done) | (rw [b2_f (by omega)]; done)) ?_
            refine AW.istore2n (pc' := 45) dX5_both_44 (by decide) rfl ?_
            refine AW.iinc3 (pc' := 48) dX5_both_45 (by decide) rfl ?_
            refine AW.goto (tgt := 8) dX5_both_48 ?_
            have z : anL (TX g) (g 26 7) pf (n + 1) v s = anL (TX g) (g 26 7) pf n (b2 (v ≠ 0 ∧ (pf (s.1 + 1, s.2)).1 ≠ 0)) (pf (s.1 + 1, s.2)).2 := by
              conv => lhs; unfold anL
              rw [if_pos c20]
            rw [z]
            exact AW.weak (ih (k + 1) _ _ (by omega) (b2_in _) (hK _ n20).2) (by (repeat' first | exact LSub.e | refine LSub.n ?_ | refine LSub.c ?_ ?_) <;> first | rfl | exact congrArg Sum.inl (by first | rfl | omega | (push_cast; omega)) | exact congrArg (fun z : Int => (vL z : AV)) (by first | rfl | omega | (push_cast; omega)))
          · refine AW.iconst (pc' := 40) dX5_both_39 ?_
            refine AW.goto (tgt := 44) dX5_both_40 ?_
            refine AW.top (b := b2 (v ≠ 0 ∧ (pf (s.1 + 1, s.2)).1 ≠ 0)) (by first | (rw [b2_t (by omega)]; done) | (rw [b2_f (by omega)]; done)) ?_
            refine AW.istore2n (pc' := 45) dX5_both_44 (by decide) rfl ?_
            refine AW.iinc3 (pc' := 48) dX5_both_45 (by decide) rfl ?_
            refine AW.goto (tgt := 8) dX5_both_48 ?_
            have z : anL (TX g) (g 26 7) pf (n + 1) v s = anL (TX g) (g 26 7) pf n (b2 (v ≠ 0 ∧ (pf (s.1 + 1, s.2)).1 ≠ 0)) (pf (s.1 + 1, s.2)).2 := by
              conv => lhs; unfold anL
              rw [if_pos c20]
            rw [z]
            exact AW.weak (ih (k + 1) _ _ (by omega) (b2_in _) (hK _ n20).2) (by (repeat' first | exact LSub.e | refine LSub.n ?_ | refine LSub.c ?_ ?_) <;> first | rfl | exact congrArg Sum.inl (by first | rfl | omega | (push_cast; omega)) | exact congrArg (fun z : Int => (vL z : AV)) (by first | rfl | omega | (push_cast; omega)))
set_option maxRecDepth 100000 in
set_option maxHeartbeats 4000000 in
theorem c_X5_both {K : KT} {dep : Nat}  {g : Hp} {s : St} {o : Int} {pf : PF} {d : Nat} (hd : 2 ≤ dep) (hG : GI g) (hs : SI (g 26 7) s) (hC : PC K g yX5_compared cX5_compared 3 d o pf) (hK : PK (g 26 7) pf) (hde : d + 1 ≤ dep) : AM K yX5_both cX5_both 5 (some .int) dep [vR 26, vI o] (LH g s) (some (vI (anG (TX g) (g 26 7) pf s).1)) (LH g (anG (TX g) (g 26 7) pf s).2) := by
  refine AM.of (own := RX5) (ls := [some (vR 26), some (vI o), none, none, none]) rfl (by decide +kernel) (by exact Nat.le_of_ble_eq_true rfl) rfl (fun hO => ?_)
  have hLt := hG.1
  have hrow : LH g s (g 26 6).toNat = g (g 26 6).toNat := LH_row g s hG.ne
  have hby : ∀ j, inB (TX g j) := fun j => by
    have := hO.bytes hG.1 j
    rwa [hrow] at this
  have e0 := hG.2.1
  have e1 := hG.2.2
  obtain ⟨s0, s1, s2, s3⟩ := hs
  have hs : SI (g 26 7) s := ⟨s0, s1, s2, s3⟩
  refine AW.aload_n (pc' := 1) dX5_both_0 rfl ?_
  refine AW.iload_n (pc' := 2) dX5_both_1 rfl ?_
  refine AW.invV1 (pc' := 5) dX5_both_2 mlX5_74 mX5_compared ly_26 rfl (hC s hs) ?_
  refine AW.istore2n (pc' := 6) dX5_both_5 (by decide) rfl ?_
  refine AW.iconst (pc' := 7) dX5_both_6 ?_
  refine AW.istore3n (pc' := 8) dX5_both_7 (by decide) rfl ?_
  exact AW.weak (lp_X5_both hG hby hC hK hde hd 120 0 _ _ rfl (hK s hs).1 (hK s hs).2) (by (repeat' first | exact LSub.e | refine LSub.n ?_ | refine LSub.c ?_ ?_) <;> first | rfl | exact congrArg Sum.inl (by first | rfl | omega | omega) | exact congrArg (fun z : Int => (vL z : AV)) (by first | rfl | omega | omega))
set_option maxRecDepth 100000 in
set_option maxHeartbeats 4000000 in
theorem lp_X5_either {K : KT}  {dep : Nat} {g : Hp} {o : Int} {pf : PF} {d : Nat} (hG : GI g) (hby : ∀ j, inB (TX g j)) (hC : PC K g yX5_both cX5_both 5 d o pf) (hK : PK (g 26 7) pf) (hde : d + 1 ≤ dep) (hd : 2 ≤ dep) : ∀ (n k : Nat) (v : Int) (s : St), k + n = 120 → inI v → SI (g 26 7) s → AW K (XM K (some (vI (orL (TX g) (g 26 7) pf n v s).1)) (LH g (orL (TX g) (g 26 7) pf n v s).2)) RX5 cX5_either 5 (some .int) dep 8 [some (vR 26), some (vI (o)), some (vI (v)), some (vI ((k : Int))), none] [] (LH g s) := by
  intro n
  induction n with
  | zero =>
    intro k v s hk hv hs
    refine AW.iload_n (pc' := 9) dX5_either_8 rfl ?_
    refine AW.bipush (pc' := 11) dX5_either_9 (by decide) ?_
    refine AW.icmp_ge (tgt := 51) (pc' := 14) dX5_either_11 (by first | assumption | omega | (constructor <;> omega) | (simp only [Int.toNat_natCast]; omega) | exact b2_in _) (by first | assumption | omega | (constructor <;> omega) | (simp only [Int.toNat_natCast]; omega) | exact b2_in _) (fun c11 => ?_) (fun c11 => ?_)
    · refine AW.iload_n (pc' := 52) dX5_either_51 rfl ?_
      refine AW.iret dX5_either_52 ?_ ?_
      · rfl
      · rfl
    · omega
  | succ n ih =>
    intro k v s hk hv hs
    obtain ⟨s0, s1, s2, s3⟩ := hs
    have hs : SI (g 26 7) s := ⟨s0, s1, s2, s3⟩
    have nxi := nx_in (E := g 26 7) (s := s) hby
    have e1 := hG.2.2
    refine AW.iload_n (pc' := 9) dX5_either_8 rfl ?_
    refine AW.bipush (pc' := 11) dX5_either_9 (by decide) ?_
    refine AW.icmp_ge (tgt := 51) (pc' := 14) dX5_either_11 (by first | assumption | omega | (constructor <;> omega) | (simp only [Int.toNat_natCast]; omega) | exact b2_in _) (by first | assumption | omega | (constructor <;> omega) | (simp only [Int.toNat_natCast]; omega) | exact b2_in _) (fun c11 => ?_) (fun c11 => ?_)
    · omega
    · refine AW.aload_n (pc' := 15) dX5_either_14 rfl ?_
      refine AW.bipush (pc' := 17) dX5_either_15 (by decide) ?_
      refine AW.invV1 (pc' := 20) dX5_either_17 mlX5_60 mX5_passes ly_26 rfl (c_X5_passes (dep := dep - 1) (by first | assumption | omega | (constructor <;> omega) | (simp only [Int.toNat_natCast]; omega) | exact b2_in _) (by first | assumption | omega | (constructor <;> omega) | (simp only [Int.toNat_natCast]; omega) | exact b2_in _) (by first | assumption | omega | (constructor <;> omega) | (simp only [Int.toNat_natCast]; omega) | exact b2_in _) (by first | assumption | omega | (constructor <;> omega) | (simp only [Int.toNat_natCast]; omega) | exact b2_in _) (by first | assumption | omega | (constructor <;> omega) | (simp only [Int.toNat_natCast]; omega) | exact b2_in _)) ?_
      try simp only [Int.toNat_natCast, LH_at, LH_fault, LH_6, LH_7]
      refine AW.ifb_eq (tgt := 51) (pc' := 23) dX5_either_20 (fun c20 => ?_) (fun c20 => ?_)
      · have p20 : psF (TX g) (g 26 7) 124 s = s := by unfold psF; rw [if_neg c20]
        rw [p20]
        refine AW.iload_n (pc' := 52) dX5_either_51 rfl ?_
        refine AW.iret dX5_either_52 ?_ ?_
        · refine congrArg (fun z : Int => (some (vI z) : Option AV)) ?_
          unfold orL
          rw [if_neg c20]
        · unfold orL
          rw [if_neg c20]
      · have p20 : psF (TX g) (g 26 7) 124 s = (s.1 + 1, s.2) := by unfold psF; rw [if_pos c20]
        rw [p20]
        have n20 := hs.next c20 (by decide)
        refine AW.aload_n (pc' := 24) dX5_either_23 rfl ?_
        refine AW.iload_n (pc' := 25) dX5_either_24 rfl ?_
        refine AW.invV1 (pc' := 28) dX5_either_25 mlX5_71 mX5_both ly_26 rfl (hC (s.1 + 1, s.2) n20) ?_
        try simp only [Int.toNat_natCast, LH_at, LH_fault, LH_6, LH_7]
        have ki := (hK _ n20).1
        refine AW.istore4 (pc' := 30) dX5_either_28 (by decide) rfl ?_
        refine AW.iload_n (pc' := 31) dX5_either_30 rfl ?_
        refine AW.if_ne (tgt := 39) (pc' := 34) dX5_either_31 (by first | assumption | omega | (constructor <;> omega) | (simp only [Int.toNat_natCast]; omega) | exact b2_in _) (fun c31 => ?_) (fun c31 => ?_)
        · refine AW.iconst (pc' := 40) dX5_either_39 ?_
          refine AW.goto (tgt := 44) dX5_either_40 ?_
          refine AW.top (b := b2 (v ≠ 0 ∨ (pf (s.1 + 1, s.2)).1 ≠ 0)) (by first | (rw [b2_t (by omega)]; done) | (rw [b2_f (by omega)]; done)) ?_
          refine AW.istore2n (pc' := 45) dX5_either_44 (by decide) rfl ?_
          refine AW.iinc3 (pc' := 48) dX5_either_45 (by decide) rfl ?_
          refine AW.goto (tgt := 8) dX5_either_48 ?_
          have z : orL (TX g) (g 26 7) pf (n + 1) v s = orL (TX g) (g 26 7) pf n (b2 (v ≠ 0 ∨ (pf (s.1 + 1, s.2)).1 ≠ 0)) (pf (s.1 + 1, s.2)).2 := by
            conv => lhs; unfold orL
            rw [if_pos c20]
          rw [z]
          exact AW.weak (ih (k + 1) _ _ (by omega) (b2_in _) (hK _ n20).2) (by (repeat' first | exact LSub.e | refine LSub.n ?_ | refine LSub.c ?_ ?_) <;> first | rfl | exact congrArg Sum.inl (by first | rfl | omega | (push_cast; omega)) | exact congrArg (fun z : Int => (vL z : AV)) (by first | rfl | omega | (push_cast; omega)))
        · refine AW.iload (pc' := 36) dX5_either_34 rfl ?_
          refine AW.if_eq (tgt := 43) (pc' := 39) dX5_either_36 (by first | assumption | omega | (constructor <;> omega) | (simp only [Int.toNat_natCast]; omega) | exact b2_in _) (fun c36 => ?_) (fun c36 => ?_)
          · refine AW.iconst (pc' := 44) dX5_either_43 ?_
            refine AW.top (b := b2 (v ≠ 0 ∨ (pf (s.1 + 1, s.2)).1 ≠ 0)) (by first | (rw [b2_t (by omega)]; done) | (rw [b2_f (by omega)]; done)) ?_
            refine AW.istore2n (pc' := 45) dX5_either_44 (by decide) rfl ?_
            refine AW.iinc3 (pc' := 48) dX5_either_45 (by decide) rfl ?_
            refine AW.goto (tgt := 8) dX5_either_48 ?_
            have z : orL (TX g) (g 26 7) pf (n + 1) v s = orL (TX g) (g 26 7) pf n (b2 (v ≠ 0 ∨ (pf (s.1 + 1, s.2)).1 ≠ 0)) (pf (s.1 + 1, s.2)).2 := by
              conv => lhs; unfold orL
              rw [if_pos c20]
            rw [z]
            exact AW.weak (ih (k + 1) _ _ (by omega) (b2_in _) (hK _ n20).2) (by (repeat' first | exact LSub.e | refine LSub.n ?_ | refine LSub.c ?_ ?_) <;> first | rfl | exact congrArg Sum.inl (by first | rfl | omega | (push_cast; omega)) | exact congrArg (fun z : Int => (vL z : AV)) (by first | rfl | omega | (push_cast; omega)))
          · refine AW.iconst (pc' := 40) dX5_either_39 ?_
            refine AW.goto (tgt := 44) dX5_either_40 ?_
            refine AW.top (b := b2 (v ≠ 0 ∨ (pf (s.1 + 1, s.2)).1 ≠ 0)) (by first | (rw [b2_t (by omega)]; done) | (rw [b2_f (by omega)]; done)) ?_
            refine AW.istore2n (pc' := 45) dX5_either_44 (by decide) rfl ?_
            refine AW.iinc3 (pc' := 48) dX5_either_45 (by decide) rfl ?_
            refine AW.goto (tgt := 8) dX5_either_48 ?_
            have z : orL (TX g) (g 26 7) pf (n + 1) v s = orL (TX g) (g 26 7) pf n (b2 (v ≠ 0 ∨ (pf (s.1 + 1, s.2)).1 ≠ 0)) (pf (s.1 + 1, s.2)).2 := by
              conv => lhs; unfold orL
              rw [if_pos c20]
            rw [z]
            exact AW.weak (ih (k + 1) _ _ (by omega) (b2_in _) (hK _ n20).2) (by (repeat' first | exact LSub.e | refine LSub.n ?_ | refine LSub.c ?_ ?_) <;> first | rfl | exact congrArg Sum.inl (by first | rfl | omega | (push_cast; omega)) | exact congrArg (fun z : Int => (vL z : AV)) (by first | rfl | omega | (push_cast; omega)))
set_option maxRecDepth 100000 in
set_option maxHeartbeats 4000000 in
theorem c_X5_either {K : KT} {dep : Nat}  {g : Hp} {s : St} {o : Int} {pf : PF} {d : Nat} (hd : 2 ≤ dep) (hG : GI g) (hs : SI (g 26 7) s) (hC : PC K g yX5_both cX5_both 5 d o pf) (hK : PK (g 26 7) pf) (hde : d + 1 ≤ dep) : AM K yX5_either cX5_either 5 (some .int) dep [vR 26, vI o] (LH g s) (some (vI (orG (TX g) (g 26 7) pf s).1)) (LH g (orG (TX g) (g 26 7) pf s).2) := by
  refine AM.of (own := RX5) (ls := [some (vR 26), some (vI o), none, none, none]) rfl (by decide +kernel) (by exact Nat.le_of_ble_eq_true rfl) rfl (fun hO => ?_)
  have hLt := hG.1
  have hrow : LH g s (g 26 6).toNat = g (g 26 6).toNat := LH_row g s hG.ne
  have hby : ∀ j, inB (TX g j) := fun j => by
    have := hO.bytes hG.1 j
    rwa [hrow] at this
  have e0 := hG.2.1
  have e1 := hG.2.2
  obtain ⟨s0, s1, s2, s3⟩ := hs
  have hs : SI (g 26 7) s := ⟨s0, s1, s2, s3⟩
  refine AW.aload_n (pc' := 1) dX5_either_0 rfl ?_
  refine AW.iload_n (pc' := 2) dX5_either_1 rfl ?_
  refine AW.invV1 (pc' := 5) dX5_either_2 mlX5_71 mX5_both ly_26 rfl (hC s hs) ?_
  refine AW.istore2n (pc' := 6) dX5_either_5 (by decide) rfl ?_
  refine AW.iconst (pc' := 7) dX5_either_6 ?_
  refine AW.istore3n (pc' := 8) dX5_either_7 (by decide) rfl ?_
  exact AW.weak (lp_X5_either hG hby hC hK hde hd 120 0 _ _ rfl (hK s hs).1 (hK s hs).2) (by (repeat' first | exact LSub.e | refine LSub.n ?_ | refine LSub.c ?_ ?_) <;> first | rfl | exact congrArg Sum.inl (by first | rfl | omega | omega) | exact congrArg (fun z : Int => (vL z : AV)) (by first | rfl | omega | omega))
