/-! the reference: mend -/
def shR (row : Nat → Int) (k j : Nat) : Int := if j < k then row (j + 1) else row j
/-- the first k changes are moved down -/
def SH (h : Hp) (k : Nat) (x : Hp) : Prop := EX [71, 72, 73, 74] h x ∧ (∀ j : Nat, x 71 j = shR (h 71) k j) ∧ (∀ j : Nat, x 72 j = shR (h 72) k j) ∧ (∀ j : Nat, x 73 j = shR (h 73) k j) ∧ ∀ j : Nat, x 74 j = shR (h 74) k j
theorem shR_st {row row1 : Nat → Int} {k : Nat} (t : ∀ j : Nat, row1 j = shR row k j) (j : Nat) : (if j = k then row1 (k + 1) else row1 j) = shR row (k + 1) j := by
  by_cases z : j = k
  · subst z
    rw [if_pos rfl, t]
    unfold shR
    rw [if_neg (by omega), if_pos (by omega)]
  · rw [if_neg z, t]
    unfold shR
    by_cases y : j < k
    · rw [if_pos y, if_pos (by omega)]
    · rw [if_neg y, if_neg (by omega)]
def chM (g : Hp) (a b v : Int) : Hp := hset (hset (hset (hset (hset (hset (hset g 71 (g 57 22).toNat a) 72 (g 57 22).toNat b) 73 (g 57 22).toNat (g (tblM b) a.toNat)) 74 (g 57 22).toNat v) 57 22 (g 57 22 + 1)) 57 23 0) (tblM b) a.toNat v
def FM (h g : Hp) : Prop := ∃ h2, SH h 39 h2 ∧ g = hset h2 57 22 39
set_option maxRecDepth 100000 in
set_option maxHeartbeats 4000000 in
theorem lp_X12_mend {K : KT} {X : XT} {dep : Nat} {h : Hp} {a b v w : Int}  : ∀ (m k : Nat) (h1 : Hp), k + m = 39 → SH h k h1 → (∀ h2 : Hp, SH h 39 h2 → AW K X RX12 cX12_mend 6 (some .int) dep 210 [some (vR 57), some (vI (a)), some (vI (b)), some (vI (v)), none, none] [] h2) → AW K X RX12 cX12_mend 6 (some .int) dep 133 [some (vR 57), some (vI (a)), some (vI (b)), some (vI (v)), some (vI (w)), some (vI (((k + 1 : Nat) : Int)))] [] h1 := by
  intro m
  induction m with
  | zero =>
    intro k h1 hk t1 kk
    have ek : k = 39 := by omega
    subst ek
    refine AW.iload (pc' := 135) dX12_mend_133 rfl ?_
    refine AW.bipush (pc' := 137) dX12_mend_135 (by decide) ?_
    refine AW.icmp_ge (tgt := 210) (pc' := 140) dX12_mend_137 (by first | assumption | omega | (constructor <;> omega) | (simp only [Int.toNat_natCast]; omega) | exact b2_in _) (by first | assumption | omega | (constructor <;> omega) | (simp only [Int.toNat_natCast]; omega) | exact b2_in _) (fun c137 => ?_) (fun c137 => ?_)
    · exact AW.weak (kk h1 t1) (by (repeat' first | exact LSub.e | refine LSub.n ?_ | refine LSub.c ?_ ?_) <;> first | rfl | exact congrArg Sum.inl (by first | rfl | omega | omega))
    · omega
  | succ m ih =>
    intro k h1 hk t1 kk
    have ek : (((k + 1 : Nat) : Int) - 1).toNat = k := by omega
    obtain ⟨e1, t2, t3, t4, t5⟩ := t1
    refine AW.iload (pc' := 135) dX12_mend_133 rfl ?_
    refine AW.bipush (pc' := 137) dX12_mend_135 (by decide) ?_
    refine AW.icmp_ge (tgt := 210) (pc' := 140) dX12_mend_137 (by first | assumption | omega | (constructor <;> omega) | (simp only [Int.toNat_natCast]; omega) | exact b2_in _) (by first | assumption | omega | (constructor <;> omega) | (simp only [Int.toNat_natCast]; omega) | exact b2_in _) (fun c137 => ?_) (fun c137 => ?_)
    · omega
    · refine AW.aload_n (pc' := 141) dX12_mend_140 rfl ?_
      refine AW.getR (pc' := 144) dX12_mend_141 ly_57 fX12_53 rfl ?_
      refine AW.iload (pc' := 146) dX12_mend_144 rfl ?_
      refine AW.iconst (pc' := 147) dX12_mend_146 ?_
      refine AW.isub (pc' := 148) dX12_mend_147 ?_
      refine AW.aload_n (pc' := 149) dX12_mend_148 rfl ?_
      refine AW.getR (pc' := 152) dX12_mend_149 ly_57 fX12_53 rfl ?_
      refine AW.iload (pc' := 154) dX12_mend_152 rfl ?_
      first | refine AW.ialdN (pc' := 155) dX12_mend_154 ly_71 (by first | assumption | omega | (constructor <;> omega) | (simp only [Int.toNat_natCast]; omega) | exact b2_in _) (by decide) (fun r154 => ?_) | refine AW.iald (pc' := 155) dX12_mend_154 ly_71 (by first | assumption | omega | (constructor <;> omega) | (simp only [Int.toNat_natCast]; omega) | exact b2_in _) (by first | assumption | omega | (constructor <;> omega) | (simp only [Int.toNat_natCast]; omega) | exact b2_in _) (by decide) (fun r154 => ?_)
      first | refine AW.iastN (pc' := 156) dX12_mend_155 ly_71 (by first | assumption | omega | (constructor <;> omega) | (simp only [Int.toNat_natCast]; omega) | exact b2_in _) (by decide) (by first | assumption | omega | (constructor <;> omega) | (simp only [Int.toNat_natCast]; omega) | exact b2_in _) ?_ | refine AW.iast (pc' := 156) dX12_mend_155 ly_71 (by first | assumption | omega | (constructor <;> omega) | (simp only [Int.toNat_natCast]; omega) | exact b2_in _) (by first | assumption | omega | (constructor <;> omega) | (simp only [Int.toNat_natCast]; omega) | exact b2_in _) (by decide) (by first | assumption | omega | (constructor <;> omega) | (simp only [Int.toNat_natCast]; omega) | exact b2_in _) ?_
      refine AW.aload_n (pc' := 157) dX12_mend_156 rfl ?_
      refine AW.getR (pc' := 160) dX12_mend_157 ly_57 fX12_56 rfl ?_
      refine AW.iload (pc' := 162) dX12_mend_160 rfl ?_
      refine AW.iconst (pc' := 163) dX12_mend_162 ?_
      refine AW.isub (pc' := 164) dX12_mend_163 ?_
      refine AW.aload_n (pc' := 165) dX12_mend_164 rfl ?_
      refine AW.getR (pc' := 168) dX12_mend_165 ly_57 fX12_56 rfl ?_
      refine AW.iload (pc' := 170) dX12_mend_168 rfl ?_
      first | refine AW.ialdN (pc' := 171) dX12_mend_170 ly_72 (by first | assumption | omega | (constructor <;> omega) | (simp only [Int.toNat_natCast]; omega) | exact b2_in _) (by decide) (fun r170 => ?_) | refine AW.iald (pc' := 171) dX12_mend_170 ly_72 (by first | assumption | omega | (constructor <;> omega) | (simp only [Int.toNat_natCast]; omega) | exact b2_in _) (by first | assumption | omega | (constructor <;> omega) | (simp only [Int.toNat_natCast]; omega) | exact b2_in _) (by decide) (fun r170 => ?_)
      try simp only [hset_app, Nat.reduceEqDiff, false_and, and_false, true_and, and_true, reduceIte] at r170 ⊢
      first | refine AW.iastN (pc' := 172) dX12_mend_171 ly_72 (by first | assumption | omega | (constructor <;> omega) | (simp only [Int.toNat_natCast]; omega) | exact b2_in _) (by decide) (by first | assumption | omega | (constructor <;> omega) | (simp only [Int.toNat_natCast]; omega) | exact b2_in _) ?_ | refine AW.iast (pc' := 172) dX12_mend_171 ly_72 (by first | assumption | omega | (constructor <;> omega) | (simp only [Int.toNat_natCast]; omega) | exact b2_in _) (by first | assumption | omega | (constructor <;> omega) | (simp only [Int.toNat_natCast]; omega) | exact b2_in _) (by decide) (by first | assumption | omega | (constructor <;> omega) | (simp only [Int.toNat_natCast]; omega) | exact b2_in _) ?_
      refine AW.aload_n (pc' := 173) dX12_mend_172 rfl ?_
      refine AW.getR (pc' := 176) dX12_mend_173 ly_57 fX12_59 rfl ?_
      refine AW.iload (pc' := 178) dX12_mend_176 rfl ?_
      refine AW.iconst (pc' := 179) dX12_mend_178 ?_
      refine AW.isub (pc' := 180) dX12_mend_179 ?_
      refine AW.aload_n (pc' := 181) dX12_mend_180 rfl ?_
      refine AW.getR (pc' := 184) dX12_mend_181 ly_57 fX12_59 rfl ?_
      refine AW.iload (pc' := 186) dX12_mend_184 rfl ?_
      first | refine AW.ialdN (pc' := 187) dX12_mend_186 ly_73 (by first | assumption | omega | (constructor <;> omega) | (simp only [Int.toNat_natCast]; omega) | exact b2_in _) (by decide) (fun r186 => ?_) | refine AW.iald (pc' := 187) dX12_mend_186 ly_73 (by first | assumption | omega | (constructor <;> omega) | (simp only [Int.toNat_natCast]; omega) | exact b2_in _) (by first | assumption | omega | (constructor <;> omega) | (simp only [Int.toNat_natCast]; omega) | exact b2_in _) (by decide) (fun r186 => ?_)
      try simp only [hset_app, Nat.reduceEqDiff, false_and, and_false, true_and, and_true, reduceIte] at r186 ⊢
      first | refine AW.iastN (pc' := 188) dX12_mend_187 ly_73 (by first | assumption | omega | (constructor <;> omega) | (simp only [Int.toNat_natCast]; omega) | exact b2_in _) (by decide) (by first | assumption | omega | (constructor <;> omega) | (simp only [Int.toNat_natCast]; omega) | exact b2_in _) ?_ | refine AW.iast (pc' := 188) dX12_mend_187 ly_73 (by first | assumption | omega | (constructor <;> omega) | (simp only [Int.toNat_natCast]; omega) | exact b2_in _) (by first | assumption | omega | (constructor <;> omega) | (simp only [Int.toNat_natCast]; omega) | exact b2_in _) (by decide) (by first | assumption | omega | (constructor <;> omega) | (simp only [Int.toNat_natCast]; omega) | exact b2_in _) ?_
      refine AW.aload_n (pc' := 189) dX12_mend_188 rfl ?_
      refine AW.getR (pc' := 192) dX12_mend_189 ly_57 fX12_62 rfl ?_
      refine AW.iload (pc' := 194) dX12_mend_192 rfl ?_
      refine AW.iconst (pc' := 195) dX12_mend_194 ?_
      refine AW.isub (pc' := 196) dX12_mend_195 ?_
      refine AW.aload_n (pc' := 197) dX12_mend_196 rfl ?_
      refine AW.getR (pc' := 200) dX12_mend_197 ly_57 fX12_62 rfl ?_
      refine AW.iload (pc' := 202) dX12_mend_200 rfl ?_
      first | refine AW.ialdN (pc' := 203) dX12_mend_202 ly_74 (by first | assumption | omega | (constructor <;> omega) | (simp only [Int.toNat_natCast]; omega) | exact b2_in _) (by decide) (fun r202 => ?_) | refine AW.iald (pc' := 203) dX12_mend_202 ly_74 (by first | assumption | omega | (constructor <;> omega) | (simp only [Int.toNat_natCast]; omega) | exact b2_in _) (by first | assumption | omega | (constructor <;> omega) | (simp only [Int.toNat_natCast]; omega) | exact b2_in _) (by decide) (fun r202 => ?_)
      try simp only [hset_app, Nat.reduceEqDiff, false_and, and_false, true_and, and_true, reduceIte] at r202 ⊢
      first | refine AW.iastN (pc' := 204) dX12_mend_203 ly_74 (by first | assumption | omega | (constructor <;> omega) | (simp only [Int.toNat_natCast]; omega) | exact b2_in _) (by decide) (by first | assumption | omega | (constructor <;> omega) | (simp only [Int.toNat_natCast]; omega) | exact b2_in _) ?_ | refine AW.iast (pc' := 204) dX12_mend_203 ly_74 (by first | assumption | omega | (constructor <;> omega) | (simp only [Int.toNat_natCast]; omega) | exact b2_in _) (by first | assumption | omega | (constructor <;> omega) | (simp only [Int.toNat_natCast]; omega) | exact b2_in _) (by decide) (by first | assumption | omega | (constructor <;> omega) | (simp only [Int.toNat_natCast]; omega) | exact b2_in _) ?_
      refine AW.iinc5 (pc' := 207) dX12_mend_204 (by decide) rfl ?_
      refine AW.goto (tgt := 133) dX12_mend_207 ?_
      simp only [ek]
      refine AW.weak (ih (k + 1) _ (by omega) ⟨(((e1.st rfl).st rfl).st rfl).st rfl, fun j => ?_, fun j => ?_, fun j => ?_, fun j => ?_⟩ kk) (by (repeat' first | exact LSub.e | refine LSub.n ?_ | refine LSub.c ?_ ?_) <;> first | rfl | exact congrArg Sum.inl (by first | rfl | omega | (push_cast; omega)))
      · rw [← shR_st t2 j]; simp [hset_app]
      · rw [← shR_st t3 j]; simp [hset_app]
      · rw [← shR_st t4 j]; simp [hset_app]
      · rw [← shR_st t5 j]; simp [hset_app]
