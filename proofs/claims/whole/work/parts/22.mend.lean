/-! the reference: mend -/
def shR (row : Nat → Int) (k j : Nat) : Int := if j < k then row (j + 1) else row j
/-- the first k changes are moved down -/
def SH (h : Hp) (k : Nat) (x : Hp) : Prop := EX [71, 72, 73, 74] h x ∧ (∀ j : Nat, x 71 j = shR (h 71) k j) ∧ (∀ j : Nat, x 72 j = shR (h 72) k j) ∧ (∀ j : Nat, x 73 j = shR (h 73) k j) ∧ ∀ j : Nat, x 74 j = shR (h 74) k j
theorem shR_st {row row1 : Nat → Int} {k : Nat} (t : ∀ j : Nat, row1 j = shR row k j) (j : Nat) : (if j = k then row1 (k + 1) else row1 j) = shR row (k + 1) j := by
  by_cases z : j = k
  · subst z
    rw [if_pos rfl, t]
    unfold shR
    rw [if_neg (by omega), if_pos (by omega)]
  · rw [if_neg z, t]
    unfold shR
    by_cases y : j < k
    · rw [if_pos y, if_pos (by omega)]
    · rw [if_neg y, if_neg (by omega)]
def chM (g : Hp) (a b v : Int) : Hp := hset (hset (hset (hset (hset (hset (hset g 71 (g 57 22).toNat a) 72 (g 57 22).toNat b) 73 (g 57 22).toNat (g (tblM b) a.toNat)) 74 (g 57 22).toNat v) 57 22 (g 57 22 + 1)) 57 23 0) (tblM b) a.toNat v
def FM (h g : Hp) : Prop := ∃ h2, SH h 39 h2 ∧ g = hset h2 57 22 39
set_option maxRecDepth 100000 in
set_option maxHeartbeats 4000000 in
theorem lp_X12_mend {K : KT} {X : XT} {dep : Nat} {h : Hp} {a b v : Int}  : ∀ (m k : Nat) (h1 : Hp), k + m = 39 → SH h k h1 → (∀ h2 : Hp, SH h 39 h2 → AW K X RX12 cX12_mend 6 (some .int) dep 210 [some (vR 57), some (vI (a)), some (vI (b)), some (vI (v)), none, none] [] h2) → AW K X RX12 cX12_mend 6 (some .int) dep 133 [some (vR 57), some (vI (a)), some (vI (b)), some (vI (v)), none, some (vI (((k + 1 : Nat) : Int)))] [] h1 := by
  intro m
  induction m with
  | zero =>
    intro k h1 hk t1 kk
    have ek : k = 39 := by omega
    subst ek
    refine AW.iload (pc' := 135) dX12_mend_133 rfl ?_
    refine AW.bipush (pc' := 137) dX12_mend_135 (by decide) ?_
    refine AW.icmp_ge (tgt := 210) (pc' := 140) dX12_mend_137 (by first | assumption | omega | (constructor <;> omega) | (simp only [Int.toNat_natCast]; omega) | exact b2_in _) (by first | assumption | omega | (constructor <;> omega) | (simp only [Int.toNat_natCast]; omega) | exact b2_in _) (fun c137 => ?_) (fun c137 => ?_)
    · exact AW.weak (kk h1 t1) (by (repeat' first | exact LSub.e | refine LSub.n ?_ | refine LSub.c ?_ ?_) <;> first | rfl | exact congrArg Sum.inl (by first | rfl | omega | omega))
    · omega
  | succ m ih =>
    intro k h1 hk t1 kk
    have ek : (((k + 1 : Nat) : Int) - 1).toNat = k := by omega
    obtain ⟨e1, t2, t3, t4, t5⟩ := t1
    refine AW.iload (pc' := 135) dX12_mend_133 rfl ?_
    refine AW.bipush (pc' := 137) dX12_mend_135 (by decide) ?_
    refine AW.icmp_ge (tgt := 210) (pc' := 140) dX12_mend_137 (by first | assumption | omega | (constructor <;> omega) | (simp only [Int.toNat_natCast]; omega) | exact b2_in _) (by first | assumption | omega | (constructor <;> omega) | (simp only [Int.toNat_natCast]; omega) | exact b2_in _) (fun c137 => ?_) (fun c137 => ?_)
    · omega
    · refine AW.aload_n (pc' := 141) dX12_mend_140 rfl ?_
      refine AW.getR (pc' := 144) dX12_mend_141 ly_57 fX12_53 rfl ?_
      refine AW.iload (pc' := 146) dX12_mend_144 rfl ?_
      refine AW.iconst (pc' := 147) dX12_mend_146 ?_
      refine AW.isub (pc' := 148) dX12_mend_147 ?_
      refine AW.aload_n (pc' := 149) dX12_mend_148 rfl ?_
      refine AW.getR (pc' := 152) dX12_mend_149 ly_57 fX12_53 rfl ?_
      refine AW.iload (pc' := 154) dX12_mend_152 rfl ?_
      first | refine AW.ialdN (pc' := 155) dX12_mend_154 ly_71 (by first | assumption | omega | (constructor <;> omega) | (simp only [Int.toNat_natCast]; omega) | exact b2_in _) (by decide) (fun r154 => ?_) | refine AW.iald (pc' := 155) dX12_mend_154 ly_71 (by first | assumption | omega | (constructor <;> omega) | (simp only [Int.toNat_natCast]; omega) | exact b2_in _) (by first | assumption | omega | (constructor <;> omega) | (simp only [Int.toNat_natCast]; omega) | exact b2_in _) (by decide) (fun r154 => ?_)
      first | refine AW.iastN (pc' := 156) dX12_mend_155 ly_71 (by first | assumption | omega | (constructor <;> omega) | (simp only [Int.toNat_natCast]; omega) | exact b2_in _) (by decide) (by first | assumption | omega | (constructor <;> omega) | (simp only [Int.toNat_natCast]; omega) | exact b2_in _) ?_ | refine AW.iast (pc' := 156) dX12_mend_155 ly_71 (by first | assumption | omega | (constructor <;> omega) | (simp only [Int.toNat_natCast]; omega) | exact b2_in _) (by first | assumption | omega | (constructor <;> omega) | (simp only [Int.toNat_natCast]; omega) | exact b2_in _) (by decide) (by first | assumption | omega | (constructor <;> omega) | (simp only [Int.toNat_natCast]; omega) | exact b2_in _) ?_
      refine AW.aload_n (pc' := 157) dX12_mend_156 rfl ?_
      refine AW.getR (pc' := 160) dX12_mend_157 ly_57 fX12_56 rfl ?_
      refine AW.iload (pc' := 162) dX12_mend_160 rfl ?_
      refine AW.iconst (pc' := 163) dX12_mend_162 ?_
      refine AW.isub (pc' := 164) dX12_mend_163 ?_
      refine AW.aload_n (pc' := 165) dX12_mend_164 rfl ?_
      refine AW.getR (pc' := 168) dX12_mend_165 ly_57 fX12_56 rfl ?_
      refine AW.iload (pc' := 170) dX12_mend_168 rfl ?_
      first | refine AW.ialdN (pc' := 171) dX12_mend_170 ly_72 (by first | assumption | omega | (constructor <;> omega) | (simp only [Int.toNat_natCast]; omega) | exact b2_in _) (by decide) (fun r170 => ?_) | refine AW.iald (pc' := 171) dX12_mend_170 ly_72 (by first | assumption | omega | (constructor <;> omega) | (simp only [Int.toNat_natCast]; omega) | exact b2_in _) (by first | assumption | omega | (constructor <;> omega) | (simp only [Int.toNat_natCast]; omega) | exact b2_in _) (by decide) (fun r170 => ?_)
      try simp only [hset_app, Nat.reduceEqDiff, false_and, and_false, true_and, and_true, reduceIte] at r170 ⊢
      first | refine AW.iastN (pc' := 172) dX12_mend_171 ly_72 (by first | assumption | omega | (constructor <;> omega) | (simp only [Int.toNat_natCast]; omega) | exact b2_in _) (by decide) (by first | assumption | omega | (constructor <;> omega) | (simp only [Int.toNat_natCast]; omega) | exact b2_in _) ?_ | refine AW.iast (pc' := 172) dX12_mend_171 ly_72 (by first | assumption | omega | (constructor <;> omega) | (simp only [Int.toNat_natCast]; omega) | exact b2_in _) (by first | assumption | omega | (constructor <;> omega) | (simp only [Int.toNat_natCast]; omega) | exact b2_in _) (by decide) (by first | assumption | omega | (constructor <;> omega) | (simp only [Int.toNat_natCast]; omega) | exact b2_in _) ?_
      refine AW.aload_n (pc' := 173) dX12_mend_172 rfl ?_
      refine AW.getR (pc' := 176) dX12_mend_173 ly_57 fX12_59 rfl ?_
      refine AW.iload (pc' := 178) dX12_mend_176 rfl ?_
      refine AW.iconst (pc' := 179) dX12_mend_178 ?_
      refine AW.isub (pc' := 180) dX12_mend_179 ?_
      refine AW.aload_n (pc' := 181) dX12_mend_180 rfl ?_
      refine AW.getR (pc' := 184) dX12_mend_181 ly_57 fX12_59 rfl ?_
      refine AW.iload (pc' := 186) dX12_mend_184 rfl ?_
      first | refine AW.ialdN (pc' := 187) dX12_mend_186 ly_73 (by first | assumption | omega | (constructor <;> omega) | (simp only [Int.toNat_natCast]; omega) | exact b2_in _) (by decide) (fun r186 => ?_) | refine AW.iald (pc' := 187) dX12_mend_186 ly_73 (by first | assumption | omega | (constructor <;> omega) | (simp only [Int.toNat_natCast]; omega) | exact b2_in _) (by first | assumption | omega | (constructor <;> omega) | (simp only [Int.toNat_natCast]; omega) | exact b2_in _) (by decide) (fun r186 => ?_)
      try simp only [hset_app, Nat.reduceEqDiff, false_and, and_false, true_and, and_true, reduceIte] at r186 ⊢
      first | refine AW.iastN (pc' := 188) dX12_mend_187 ly_73 (by first | assumption | omega | (constructor <;> omega) | (simp only [Int.toNat_natCast]; omega) | exact b2_in _) (by decide) (by first | assumption | omega | (constructor <;> omega) | (simp only [Int.toNat_natCast]; omega) | exact b2_in _) ?_ | refine AW.iast (pc' := 188) dX12_mend_187 ly_73 (by first | assumption | omega | (constructor <;> omega) | (simp only [Int.toNat_natCast]; omega) | exact b2_in _) (by first | assumption | omega | (constructor <;> omega) | (simp only [Int.toNat_natCast]; omega) | exact b2_in _) (by decide) (by first | assumption | omega | (constructor <;> omega) | (simp only [Int.toNat_natCast]; omega) | exact b2_in _) ?_
      refine AW.aload_n (pc' := 189) dX12_mend_188 rfl ?_
      refine AW.getR (pc' := 192) dX12_mend_189 ly_57 fX12_62 rfl ?_
      refine AW.iload (pc' := 194) dX12_mend_192 rfl ?_
      refine AW.iconst (pc' := 195) dX12_mend_194 ?_
      refine AW.isub (pc' := 196) dX12_mend_195 ?_
      refine AW.aload_n (pc' := 197) dX12_mend_196 rfl ?_
      refine AW.getR (pc' := 200) dX12_mend_197 ly_57 fX12_62 rfl ?_
      refine AW.iload (pc' := 202) dX12_mend_200 rfl ?_
      first | refine AW.ialdN (pc' := 203) dX12_mend_202 ly_74 (by first | assumption | omega | (constructor <;> omega) | (simp only [Int.toNat_natCast]; omega) | exact b2_in _) (by decide) (fun r202 => ?_) | refine AW.iald (pc' := 203) dX12_mend_202 ly_74 (by first | assumption | omega | (constructor <;> omega) | (simp only [Int.toNat_natCast]; omega) | exact b2_in _) (by first | assumption | omega | (constructor <;> omega) | (simp only [Int.toNat_natCast]; omega) | exact b2_in _) (by decide) (fun r202 => ?_)
      try simp only [hset_app, Nat.reduceEqDiff, false_and, and_false, true_and, and_true, reduceIte] at r202 ⊢
      first | refine AW.iastN (pc' := 204) dX12_mend_203 ly_74 (by first | assumption | omega | (constructor <;> omega) | (simp only [Int.toNat_natCast]; omega) | exact b2_in _) (by decide) (by first | assumption | omega | (constructor <;> omega) | (simp only [Int.toNat_natCast]; omega) | exact b2_in _) ?_ | refine AW.iast (pc' := 204) dX12_mend_203 ly_74 (by first | assumption | omega | (constructor <;> omega) | (simp only [Int.toNat_natCast]; omega) | exact b2_in _) (by first | assumption | omega | (constructor <;> omega) | (simp only [Int.toNat_natCast]; omega) | exact b2_in _) (by decide) (by first | assumption | omega | (constructor <;> omega) | (simp only [Int.toNat_natCast]; omega) | exact b2_in _) ?_
      refine AW.iinc5 (pc' := 207) dX12_mend_204 (by decide) rfl ?_
      refine AW.goto (tgt := 133) dX12_mend_207 ?_
      simp only [ek]
      refine AW.weak (ih (k + 1) _ (by omega) ⟨(((e1.st rfl).st rfl).st rfl).st rfl, fun j => ?_, fun j => ?_, fun j => ?_, fun j => ?_⟩ kk) (by (repeat' first | exact LSub.e | refine LSub.n ?_ | refine LSub.c ?_ ?_) <;> first | rfl | exact congrArg Sum.inl (by first | rfl | omega | (push_cast; omega)))
      · rw [← shR_st t2 j]; simp [hset_app]
      · rw [← shR_st t3 j]; simp [hset_app]
      · rw [← shR_st t4 j]; simp [hset_app]
      · rw [← shR_st t5 j]; simp [hset_app]
theorem AW.post {K : KT} {own : String} {cc : ByteArray} {nL : Nat} {ret : Option FieldType} {dep pc : Nat} {ls : List (Option AV)} {st : List AV} {h : Hp} {ro : Option AV} {F G : Hp → Prop} (k : AW K (XP K ro F) own cc nL ret dep pc ls st h) (hFG : ∀ x, F x → G x) : AW K (XP K ro G) own cc nL ret dep pc ls st h := by
  intro p e R s m args below meth c H locs lsA C Wx q T hT X
  obtain ⟨t, a1, o, b1, b2, ⟨b3, ⟨hf, b4, b5⟩, b6⟩, b7⟩ := k p e R s m args below meth c H locs lsA C Wx q T hT X
  exact ⟨t, a1, o, b1, b2, ⟨b3, ⟨hf, hFG hf b4, b5⟩, b6⟩, b7⟩
theorem FM.tbl {h g : Hp} (H : FM h g) (b : Int) : g (tblM b) = h (tblM b) := by
  obtain ⟨h2, ⟨e, -⟩, rfl⟩ := H
  have e2 : ∀ k : Nat, k ≠ 57 → hset h2 57 22 39 k = h2 k := fun k hk => hset_other k hk
  rw [e2 _ (tblM_ne b)]
  unfold tblM
  (repeat' split)
  · exact e 69 rfl
  · exact e 70 rfl
  · exact e 63 rfl
theorem FM.n {h g : Hp} (H : FM h g) : g 57 22 = 39 := by
  obtain ⟨h2, -, rfl⟩ := H
  exact hset_same _ _ _ _
set_option maxRecDepth 100000 in
set_option maxHeartbeats 4000000 in
theorem tl_X12_mend220 {K : KT}  {dep : Nat} {g : Hp} {a b v : Int} (hO : HOK g) (q0 : 0 ≤ g 57 22 ∧ g 57 22 < 40) (q1 : 0 ≤ a ∧ a < 120) (q2 : 0 ≤ b ∧ b ≤ 2) (q3 : b = 2 → a < 6) (q4 : inI v) (hd : 1 ≤ dep) :  AW K (XM K (some (vI (g (tblM b) a.toNat))) (chM g a b v)) RX12 cX12_mend 6 (some .int) dep 220 [some (vR 57), some (vI (a)), some (vI (b)), some (vI (v)), none, none] [] g := by
  have ci := tblM_in hO b a.toNat
  refine AW.aload_n (pc' := 221) dX12_mend_220 rfl ?_
  refine AW.iload_n (pc' := 222) dX12_mend_221 rfl ?_
  refine AW.iload_n (pc' := 223) dX12_mend_222 rfl ?_
  refine AW.invV2 (pc' := 226) dX12_mend_223 mlX12_167 mX12_valueOf ly_57 rfl (c_X12_valueOf (dep := dep - 1) (by first | assumption | omega | (constructor <;> omega) | (simp only [Int.toNat_natCast]; omega) | exact b2_in _) (by first | assumption | omega | (constructor <;> omega) | (simp only [Int.toNat_natCast]; omega) | exact b2_in _) (by first | assumption | omega | (constructor <;> omega) | (simp only [Int.toNat_natCast]; omega) | exact b2_in _)) ?_
  refine AW.istore5 (pc' := 228) dX12_mend_226 (by decide) rfl ?_
  refine AW.aload_n (pc' := 229) dX12_mend_228 rfl ?_
  refine AW.getR (pc' := 232) dX12_mend_229 ly_57 fX12_53 rfl ?_
  refine AW.aload_n (pc' := 233) dX12_mend_232 rfl ?_
  refine AW.getI (pc' := 236) dX12_mend_233 ly_57 fX12_171 rfl (fun r233 => ?_)
  refine AW.iload_n (pc' := 237) dX12_mend_236 rfl ?_
  first | refine AW.iastN (pc' := 238) dX12_mend_237 ly_71 (by first | assumption | omega | (constructor <;> omega) | (simp only [Int.toNat_natCast]; omega) | exact b2_in _) (by decide) (by first | assumption | omega | (constructor <;> omega) | (simp only [Int.toNat_natCast]; omega) | exact b2_in _) ?_ | refine AW.iast (pc' := 238) dX12_mend_237 ly_71 (by first | assumption | omega | (constructor <;> omega) | (simp only [Int.toNat_natCast]; omega) | exact b2_in _) (by first | assumption | omega | (constructor <;> omega) | (simp only [Int.toNat_natCast]; omega) | exact b2_in _) (by decide) (by first | assumption | omega | (constructor <;> omega) | (simp only [Int.toNat_natCast]; omega) | exact b2_in _) ?_
  refine AW.aload_n (pc' := 239) dX12_mend_238 rfl ?_
  refine AW.getR (pc' := 242) dX12_mend_239 ly_57 fX12_56 rfl ?_
  refine AW.aload_n (pc' := 243) dX12_mend_242 rfl ?_
  refine AW.getI (pc' := 246) dX12_mend_243 ly_57 fX12_171 rfl (fun r243 => ?_)
  try simp only [hset_app, Nat.reduceEqDiff, false_and, and_false, true_and, and_true, reduceIte] at r243 ⊢
  refine AW.iload_n (pc' := 247) dX12_mend_246 rfl ?_
  first | refine AW.iastN (pc' := 248) dX12_mend_247 ly_72 (by first | assumption | omega | (constructor <;> omega) | (simp only [Int.toNat_natCast]; omega) | exact b2_in _) (by decide) (by first | assumption | omega | (constructor <;> omega) | (simp only [Int.toNat_natCast]; omega) | exact b2_in _) ?_ | refine AW.iast (pc' := 248) dX12_mend_247 ly_72 (by first | assumption | omega | (constructor <;> omega) | (simp only [Int.toNat_natCast]; omega) | exact b2_in _) (by first | assumption | omega | (constructor <;> omega) | (simp only [Int.toNat_natCast]; omega) | exact b2_in _) (by decide) (by first | assumption | omega | (constructor <;> omega) | (simp only [Int.toNat_natCast]; omega) | exact b2_in _) ?_
  refine AW.aload_n (pc' := 249) dX12_mend_248 rfl ?_
  refine AW.getR (pc' := 252) dX12_mend_249 ly_57 fX12_59 rfl ?_
  refine AW.aload_n (pc' := 253) dX12_mend_252 rfl ?_
  refine AW.getI (pc' := 256) dX12_mend_253 ly_57 fX12_171 rfl (fun r253 => ?_)
  try simp only [hset_app, Nat.reduceEqDiff, false_and, and_false, true_and, and_true, reduceIte] at r253 ⊢
  refine AW.iload (pc' := 258) dX12_mend_256 rfl ?_
  first | refine AW.iastN (pc' := 259) dX12_mend_258 ly_73 (by first | assumption | omega | (constructor <;> omega) | (simp only [Int.toNat_natCast]; omega) | exact b2_in _) (by decide) (by first | assumption | omega | (constructor <;> omega) | (simp only [Int.toNat_natCast]; omega) | exact b2_in _) ?_ | refine AW.iast (pc' := 259) dX12_mend_258 ly_73 (by first | assumption | omega | (constructor <;> omega) | (simp only [Int.toNat_natCast]; omega) | exact b2_in _) (by first | assumption | omega | (constructor <;> omega) | (simp only [Int.toNat_natCast]; omega) | exact b2_in _) (by decide) (by first | assumption | omega | (constructor <;> omega) | (simp only [Int.toNat_natCast]; omega) | exact b2_in _) ?_
  refine AW.aload_n (pc' := 260) dX12_mend_259 rfl ?_
  refine AW.getR (pc' := 263) dX12_mend_260 ly_57 fX12_62 rfl ?_
  refine AW.aload_n (pc' := 264) dX12_mend_263 rfl ?_
  refine AW.getI (pc' := 267) dX12_mend_264 ly_57 fX12_171 rfl (fun r264 => ?_)
  try simp only [hset_app, Nat.reduceEqDiff, false_and, and_false, true_and, and_true, reduceIte] at r264 ⊢
  refine AW.iload_n (pc' := 268) dX12_mend_267 rfl ?_
  first | refine AW.iastN (pc' := 269) dX12_mend_268 ly_74 (by first | assumption | omega | (constructor <;> omega) | (simp only [Int.toNat_natCast]; omega) | exact b2_in _) (by decide) (by first | assumption | omega | (constructor <;> omega) | (simp only [Int.toNat_natCast]; omega) | exact b2_in _) ?_ | refine AW.iast (pc' := 269) dX12_mend_268 ly_74 (by first | assumption | omega | (constructor <;> omega) | (simp only [Int.toNat_natCast]; omega) | exact b2_in _) (by first | assumption | omega | (constructor <;> omega) | (simp only [Int.toNat_natCast]; omega) | exact b2_in _) (by decide) (by first | assumption | omega | (constructor <;> omega) | (simp only [Int.toNat_natCast]; omega) | exact b2_in _) ?_
  refine AW.aload_n (pc' := 270) dX12_mend_269 rfl ?_
  refine AW.dup (pc' := 271) dX12_mend_270 rfl ?_
  refine AW.getI (pc' := 274) dX12_mend_271 ly_57 fX12_171 rfl (fun r271 => ?_)
  try simp only [hset_app, Nat.reduceEqDiff, false_and, and_false, true_and, and_true, reduceIte] at r271 ⊢
  refine AW.iconst (pc' := 275) dX12_mend_274 ?_
  refine AW.iadd (pc' := 276) dX12_mend_275 ?_
  refine AW.putI (pc' := 279) dX12_mend_276 ly_57 pX12_171 rfl (by first | assumption | omega | (constructor <;> omega) | (simp only [Int.toNat_natCast]; omega) | exact b2_in _) ?_
  refine AW.aload_n (pc' := 280) dX12_mend_279 rfl ?_
  refine AW.iconst (pc' := 281) dX12_mend_280 ?_
  refine AW.putI (pc' := 284) dX12_mend_281 ly_57 pX12_174 rfl (by first | assumption | omega | (constructor <;> omega) | (simp only [Int.toNat_natCast]; omega) | exact b2_in _) ?_
  refine AW.aload_n (pc' := 285) dX12_mend_284 rfl ?_
  refine AW.iload_n (pc' := 286) dX12_mend_285 rfl ?_
  refine AW.iload_n (pc' := 287) dX12_mend_286 rfl ?_
  refine AW.iload_n (pc' := 288) dX12_mend_287 rfl ?_
  refine AW.invV3v (pc' := 291) dX12_mend_288 mlX12_177 mX12_becomes ly_57 rfl (c_X12_becomes (dep := dep - 1) (by first | assumption | omega | (constructor <;> omega) | (simp only [Int.toNat_natCast]; omega) | exact b2_in _) (by first | assumption | omega | (constructor <;> omega) | (simp only [Int.toNat_natCast]; omega) | exact b2_in _) (by first | assumption | omega | (constructor <;> omega) | (simp only [Int.toNat_natCast]; omega) | exact b2_in _) (by first | assumption | omega | (constructor <;> omega) | (simp only [Int.toNat_natCast]; omega) | exact b2_in _)) ?_
  refine AW.iload (pc' := 293) dX12_mend_291 rfl ?_
  refine AW.iret dX12_mend_293 ?_ ?_
  · rfl
  · rfl
set_option maxRecDepth 100000 in
set_option maxHeartbeats 4000000 in
theorem tl_X12_mend109 {K : KT}  {dep : Nat} {h : Hp} {a b v : Int} (hO : HOK h) (q0 : 0 ≤ h 57 22 ∧ h 57 22 ≤ 40) (q1 : 0 ≤ a ∧ a < 120) (q2 : 0 ≤ b ∧ b ≤ 2) (q3 : b = 2 → a < 6) (q4 : inI v) (hd : 1 ≤ dep) :  AW K (XP K (some (vI (h (tblM b) a.toNat))) (fun x => (v = h (tblM b) a.toNat ∧ x = h) ∨ (v ≠ h (tblM b) a.toNat ∧ ∃ g, (h 57 22 ≠ 40 ∧ g = h ∨ h 57 22 = 40 ∧ FM h g) ∧ x = chM g a b v))) RX12 cX12_mend 6 (some .int) dep 109 [some (vR 57), some (vI (a)), some (vI (b)), some (vI (v)), none, none] [] h := by
  have ci := tblM_in hO b a.toNat
  refine AW.aload_n (pc' := 110) dX12_mend_109 rfl ?_
  refine AW.iload_n (pc' := 111) dX12_mend_110 rfl ?_
  refine AW.iload_n (pc' := 112) dX12_mend_111 rfl ?_
  refine AW.invV2 (pc' := 115) dX12_mend_112 mlX12_167 mX12_valueOf ly_57 rfl (c_X12_valueOf (dep := dep - 1) (by first | assumption | omega | (constructor <;> omega) | (simp only [Int.toNat_natCast]; omega) | exact b2_in _) (by first | assumption | omega | (constructor <;> omega) | (simp only [Int.toNat_natCast]; omega) | exact b2_in _) (by first | assumption | omega | (constructor <;> omega) | (simp only [Int.toNat_natCast]; omega) | exact b2_in _)) ?_
  refine AW.iload_n (pc' := 116) dX12_mend_115 rfl ?_
  refine AW.icmp_ne (tgt := 121) (pc' := 119) dX12_mend_116 (by first | assumption | omega | (constructor <;> omega) | (simp only [Int.toNat_natCast]; omega) | exact b2_in _) (by first | assumption | omega | (constructor <;> omega) | (simp only [Int.toNat_natCast]; omega) | exact b2_in _) (fun c116 => ?_) (fun c116 => ?_)
  · refine AW.aload_n (pc' := 122) dX12_mend_121 rfl ?_
    refine AW.getI (pc' := 125) dX12_mend_122 ly_57 fX12_171 rfl (fun r122 => ?_)
    refine AW.bipush (pc' := 127) dX12_mend_125 (by decide) ?_
    refine AW.icmp_ne (tgt := 220) (pc' := 130) dX12_mend_127 (by first | assumption | omega | (constructor <;> omega) | (simp only [Int.toNat_natCast]; omega) | exact b2_in _) (by first | assumption | omega | (constructor <;> omega) | (simp only [Int.toNat_natCast]; omega) | exact b2_in _) (fun c127 => ?_) (fun c127 => ?_)
    · refine AW.weak (ls' := [some (vR 57), some (vI a), some (vI b), some (vI v), none, none]) ?_ (by (repeat' first | exact LSub.e | refine LSub.n ?_ | refine LSub.c ?_ ?_) <;> first | rfl | exact congrArg Sum.inl (by first | rfl | omega | omega))
      have z := tl_X12_mend220 (K := K) (dep := dep) hO (by omega) q1 q2 q3 q4 hd
      refine AW.post z (fun x hx => Or.inr ⟨fun y => c116 y.symm, h, Or.inl ⟨c127, rfl⟩, hx.symm⟩)
    · refine AW.iconst (pc' := 131) dX12_mend_130 ?_
      refine AW.istore5 (pc' := 133) dX12_mend_131 (by decide) rfl ?_
      refine AW.weak (lp_X12_mend 39 0 h rfl ⟨EX.rf, fun j => by unfold shR; rw [if_neg (by omega)], fun j => by unfold shR; rw [if_neg (by omega)], fun j => by unfold shR; rw [if_neg (by omega)], fun j => by unfold shR; rw [if_neg (by omega)]⟩ (fun h2 t2 => ?_)) (by (repeat' first | exact LSub.e | refine LSub.n ?_ | refine LSub.c ?_ ?_) <;> first | rfl | exact congrArg Sum.inl (by first | rfl | omega | omega))
      have n2 : h2 57 22 = 40 := by rw [t2.1 57 rfl]; omega
      refine AW.aload_n (pc' := 211) dX12_mend_210 rfl ?_
      refine AW.dup (pc' := 212) dX12_mend_211 rfl ?_
      refine AW.getI (pc' := 215) dX12_mend_212 ly_57 fX12_171 rfl (fun r212 => ?_)
      refine AW.iconst (pc' := 216) dX12_mend_215 ?_
      refine AW.isub (pc' := 217) dX12_mend_216 ?_
      refine AW.putI (pc' := 220) dX12_mend_217 ly_57 pX12_171 rfl (by first | assumption | omega | (constructor <;> omega) | (simp only [Int.toNat_natCast]; omega) | exact b2_in _) ?_
      rw [n2]
      have fm : FM h (hset h2 57 22 (40 - 1)) := ⟨h2, t2, rfl⟩
      refine AW.known (fun hO2 => ?_)
      have z := tl_X12_mend220 (K := K) (dep := dep) hO2 (by rw [fm.n]; decide) q1 q2 q3 q4 hd
      rw [fm.tbl b] at z
      refine AW.weak (AW.post z (fun x hx => Or.inr ⟨fun y => c116 y.symm, _, Or.inr ⟨c127, fm⟩, hx.symm⟩)) (by (repeat' first | exact LSub.e | refine LSub.n ?_ | refine LSub.c ?_ ?_) <;> first | rfl | exact congrArg Sum.inl (by first | rfl | omega | omega))
  · refine AW.iload_n (pc' := 120) dX12_mend_119 rfl ?_
    refine AW.iret dX12_mend_120 ?_ ?_
    · rw [c116]
    · exact Or.inl ⟨c116.symm, rfl⟩
abbrev mPm (nr ns a b v : Int) : Prop := (b = 0 ∧ (0 ≤ a ∧ a < nr) ∧ 10 ≤ v ∧ v ≤ 29999) ∨ (b = 1 ∧ (0 ≤ a ∧ a < nr) ∧ (v = -1 ∨ 0 ≤ v ∧ v < ns)) ∨ (b = 2 ∧ (0 ≤ a ∧ a < ns) ∧ a ≠ 0 ∧ -99 ≤ v ∧ v ≤ 99)
set_option maxRecDepth 100000 in
set_option maxHeartbeats 4000000 in
theorem c_X12_mend {K : KT} {dep : Nat} {h : Hp} {a b v : Int} (hd : 2 ≤ dep) (q0 : 0 ≤ h 57 22 ∧ h 57 22 ≤ 40) (q1 : h 57 16 ≤ 120) (q2 : h 57 14 ≤ 6) (q3 : inI a) (q4 : inI b) (q5 : inI v) : AMp K yX12_mend cX12_mend 6 (some .int) dep [vR 57, vI a, vI b, vI v] h (some (vI (if ¬ mPm (h 57 16) (h 57 14) a b v then -2000000000 else h (tblM b) a.toNat))) (fun x => (¬ mPm (h 57 16) (h 57 14) a b v ∧ x = h) ∨ (mPm (h 57 16) (h 57 14) a b v ∧ ((v = h (tblM b) a.toNat ∧ x = h) ∨ (v ≠ h (tblM b) a.toNat ∧ ∃ g, (h 57 22 ≠ 40 ∧ g = h ∨ h 57 22 = 40 ∧ FM h g) ∧ x = chM g a b v)))) := by
  refine AM.of (own := RX12) (ls := [some (vR 57), some (vI a), some (vI b), some (vI v), none, none]) rfl (by decide +kernel) (by exact Nat.le_of_ble_eq_true rfl) rfl (fun hO => ?_)
  refine AW.iload_n (pc' := 1) dX12_mend_0 rfl ?_
  refine AW.if_ne (tgt := 32) (pc' := 4) dX12_mend_1 (by first | assumption | omega | (constructor <;> omega) | (simp only [Int.toNat_natCast]; omega) | exact b2_in _) (fun c1 => ?_) (fun c1 => ?_)
  · refine AW.iload_n (pc' := 33) dX12_mend_32 rfl ?_
    refine AW.iconst (pc' := 34) dX12_mend_33 ?_
    refine AW.icmp_ne (tgt := 66) (pc' := 37) dX12_mend_34 (by first | assumption | omega | (constructor <;> omega) | (simp only [Int.toNat_natCast]; omega) | exact b2_in _) (by first | assumption | omega | (constructor <;> omega) | (simp only [Int.toNat_natCast]; omega) | exact b2_in _) (fun c34 => ?_) (fun c34 => ?_)
    · refine AW.iload_n (pc' := 67) dX12_mend_66 rfl ?_
      refine AW.iconst (pc' := 68) dX12_mend_67 ?_
      refine AW.icmp_ne (tgt := 98) (pc' := 71) dX12_mend_68 (by first | assumption | omega | (constructor <;> omega) | (simp only [Int.toNat_natCast]; omega) | exact b2_in _) (by first | assumption | omega | (constructor <;> omega) | (simp only [Int.toNat_natCast]; omega) | exact b2_in _) (fun c68 => ?_) (fun c68 => ?_)
      · refine AW.iconst (pc' := 99) dX12_mend_98 ?_
        refine AW.istore4 (pc' := 101) dX12_mend_99 (by decide) rfl ?_
        refine AW.iload (pc' := 103) dX12_mend_101 rfl ?_
        refine AW.if_ne (tgt := 109) (pc' := 106) dX12_mend_103 (by first | assumption | omega | (constructor <;> omega) | (simp only [Int.toNat_natCast]; omega) | exact b2_in _) (fun c103 => ?_) (fun c103 => ?_)
        · first
            | (have mp : mPm (h 57 16) (h 57 14) a b v := by omega
               have c8 : 0 ≤ a ∧ a < 120 ∧ 0 ≤ b ∧ b ≤ 2 ∧ (b = 2 → a < 6) := by omega
               have z := tl_X12_mend109 (K := K) (dep := dep) hO q0 (a := a) (b := b) (v := v) (by omega) (by omega) (by omega) (by assumption) (by omega)
               rw [if_neg (fun y => y mp)]
               exact AW.weak (AW.post z (fun x hx => Or.inr ⟨mp, hx⟩)) (by (repeat' first | exact LSub.e | refine LSub.n ?_ | refine LSub.c ?_ ?_) <;> first | rfl | exact congrArg Sum.inl (by first | rfl | omega | omega)))
        · refine AW.ldc (v := -2000000000) (pc' := 108) dX12_mend_106 kX12_156 ?_
          refine AW.iret dX12_mend_108 ?_ ?_
          · first | (rw [if_pos (by omega)]; done) | omega
          · first | exact Or.inl ⟨by omega, rfl⟩ | omega
      · refine AW.iload_n (pc' := 72) dX12_mend_71 rfl ?_
        refine AW.if_le (tgt := 98) (pc' := 75) dX12_mend_72 (by first | assumption | omega | (constructor <;> omega) | (simp only [Int.toNat_natCast]; omega) | exact b2_in _) (fun c72 => ?_) (fun c72 => ?_)
        · refine AW.iconst (pc' := 99) dX12_mend_98 ?_
          refine AW.istore4 (pc' := 101) dX12_mend_99 (by decide) rfl ?_
          refine AW.iload (pc' := 103) dX12_mend_101 rfl ?_
          refine AW.if_ne (tgt := 109) (pc' := 106) dX12_mend_103 (by first | assumption | omega | (constructor <;> omega) | (simp only [Int.toNat_natCast]; omega) | exact b2_in _) (fun c103 => ?_) (fun c103 => ?_)
          · first
              | (have mp : mPm (h 57 16) (h 57 14) a b v := by omega
                 have c8 : 0 ≤ a ∧ a < 120 ∧ 0 ≤ b ∧ b ≤ 2 ∧ (b = 2 → a < 6) := by omega
                 have z := tl_X12_mend109 (K := K) (dep := dep) hO q0 (a := a) (b := b) (v := v) (by omega) (by omega) (by omega) (by assumption) (by omega)
                 rw [if_neg (fun y => y mp)]
                 exact AW.weak (AW.post z (fun x hx => Or.inr ⟨mp, hx⟩)) (by (repeat' first | exact LSub.e | refine LSub.n ?_ | refine LSub.c ?_ ?_) <;> first | rfl | exact congrArg Sum.inl (by first | rfl | omega | omega)))
          · refine AW.ldc (v := -2000000000) (pc' := 108) dX12_mend_106 kX12_156 ?_
            refine AW.iret dX12_mend_108 ?_ ?_
            · first | (rw [if_pos (by omega)]; done) | omega
            · first | exact Or.inl ⟨by omega, rfl⟩ | omega
        · refine AW.aload_n (pc' := 76) dX12_mend_75 rfl ?_
          refine AW.iload_n (pc' := 77) dX12_mend_76 rfl ?_
          refine AW.invV1 (pc' := 80) dX12_mend_77 mlX12_138 mX12_isShoe ly_57 rfl (c_X12_isShoe (dep := dep - 1) (by first | assumption | omega | (constructor <;> omega) | (simp only [Int.toNat_natCast]; omega) | exact b2_in _)) ?_
          refine AW.ifb_eq (tgt := 98) (pc' := 83) dX12_mend_80 (fun c80 => ?_) (fun c80 => ?_)
          · refine AW.iconst (pc' := 99) dX12_mend_98 ?_
            refine AW.istore4 (pc' := 101) dX12_mend_99 (by decide) rfl ?_
            refine AW.iload (pc' := 103) dX12_mend_101 rfl ?_
            refine AW.if_ne (tgt := 109) (pc' := 106) dX12_mend_103 (by first | assumption | omega | (constructor <;> omega) | (simp only [Int.toNat_natCast]; omega) | exact b2_in _) (fun c103 => ?_) (fun c103 => ?_)
            · first
                | (have mp : mPm (h 57 16) (h 57 14) a b v := by omega
                   have c8 : 0 ≤ a ∧ a < 120 ∧ 0 ≤ b ∧ b ≤ 2 ∧ (b = 2 → a < 6) := by omega
                   have z := tl_X12_mend109 (K := K) (dep := dep) hO q0 (a := a) (b := b) (v := v) (by omega) (by omega) (by omega) (by assumption) (by omega)
                   rw [if_neg (fun y => y mp)]
                   exact AW.weak (AW.post z (fun x hx => Or.inr ⟨mp, hx⟩)) (by (repeat' first | exact LSub.e | refine LSub.n ?_ | refine LSub.c ?_ ?_) <;> first | rfl | exact congrArg Sum.inl (by first | rfl | omega | omega)))
            · refine AW.ldc (v := -2000000000) (pc' := 108) dX12_mend_106 kX12_156 ?_
              refine AW.iret dX12_mend_108 ?_ ?_
              · first | (rw [if_pos (by omega)]; done) | omega
              · first | exact Or.inl ⟨by omega, rfl⟩ | omega
          · refine AW.iload_n (pc' := 84) dX12_mend_83 rfl ?_
            refine AW.bipush (pc' := 86) dX12_mend_84 (by decide) ?_
            refine AW.bipush (pc' := 88) dX12_mend_86 (by decide) ?_
            refine AW.invS3 (pc' := 91) dX12_mend_88 mlX12_117 mX12_isIn (c_X12_isIn (dep := dep - 1) (by first | assumption | omega | (constructor <;> omega) | (simp only [Int.toNat_natCast]; omega) | exact b2_in _) (by first | assumption | omega | (constructor <;> omega) | (simp only [Int.toNat_natCast]; omega) | exact b2_in _) (by first | assumption | omega | (constructor <;> omega) | (simp only [Int.toNat_natCast]; omega) | exact b2_in _)) ?_
            refine AW.ifb_eq (tgt := 98) (pc' := 94) dX12_mend_91 (fun c91 => ?_) (fun c91 => ?_)
            · refine AW.iconst (pc' := 99) dX12_mend_98 ?_
              refine AW.istore4 (pc' := 101) dX12_mend_99 (by decide) rfl ?_
              refine AW.iload (pc' := 103) dX12_mend_101 rfl ?_
              refine AW.if_ne (tgt := 109) (pc' := 106) dX12_mend_103 (by first | assumption | omega | (constructor <;> omega) | (simp only [Int.toNat_natCast]; omega) | exact b2_in _) (fun c103 => ?_) (fun c103 => ?_)
              · first
                  | (have mp : mPm (h 57 16) (h 57 14) a b v := by omega
                     have c8 : 0 ≤ a ∧ a < 120 ∧ 0 ≤ b ∧ b ≤ 2 ∧ (b = 2 → a < 6) := by omega
                     have z := tl_X12_mend109 (K := K) (dep := dep) hO q0 (a := a) (b := b) (v := v) (by omega) (by omega) (by omega) (by assumption) (by omega)
                     rw [if_neg (fun y => y mp)]
                     exact AW.weak (AW.post z (fun x hx => Or.inr ⟨mp, hx⟩)) (by (repeat' first | exact LSub.e | refine LSub.n ?_ | refine LSub.c ?_ ?_) <;> first | rfl | exact congrArg Sum.inl (by first | rfl | omega | omega)))
              · refine AW.ldc (v := -2000000000) (pc' := 108) dX12_mend_106 kX12_156 ?_
                refine AW.iret dX12_mend_108 ?_ ?_
                · first | (rw [if_pos (by omega)]; done) | omega
                · first | exact Or.inl ⟨by omega, rfl⟩ | omega
            · refine AW.iconst (pc' := 95) dX12_mend_94 ?_
              refine AW.goto (tgt := 99) dX12_mend_95 ?_
              refine AW.istore4 (pc' := 101) dX12_mend_99 (by decide) rfl ?_
              refine AW.iload (pc' := 103) dX12_mend_101 rfl ?_
              refine AW.if_ne (tgt := 109) (pc' := 106) dX12_mend_103 (by first | assumption | omega | (constructor <;> omega) | (simp only [Int.toNat_natCast]; omega) | exact b2_in _) (fun c103 => ?_) (fun c103 => ?_)
              · first
                  | (have mp : mPm (h 57 16) (h 57 14) a b v := by omega
                     have c8 : 0 ≤ a ∧ a < 120 ∧ 0 ≤ b ∧ b ≤ 2 ∧ (b = 2 → a < 6) := by omega
                     have z := tl_X12_mend109 (K := K) (dep := dep) hO q0 (a := a) (b := b) (v := v) (by omega) (by omega) (by omega) (by assumption) (by omega)
                     rw [if_neg (fun y => y mp)]
                     exact AW.weak (AW.post z (fun x hx => Or.inr ⟨mp, hx⟩)) (by (repeat' first | exact LSub.e | refine LSub.n ?_ | refine LSub.c ?_ ?_) <;> first | rfl | exact congrArg Sum.inl (by first | rfl | omega | omega)))
              · refine AW.ldc (v := -2000000000) (pc' := 108) dX12_mend_106 kX12_156 ?_
                refine AW.iret dX12_mend_108 ?_ ?_
                · first | (rw [if_pos (by omega)]; done) | omega
                · first | exact Or.inl ⟨by omega, rfl⟩ | omega
    · refine AW.aload_n (pc' := 38) dX12_mend_37 rfl ?_
      refine AW.iload_n (pc' := 39) dX12_mend_38 rfl ?_
      refine AW.invV1 (pc' := 42) dX12_mend_39 mlX12_153 mX12_isRun ly_57 rfl (c_X12_isRun (dep := dep - 1) (by first | assumption | omega | (constructor <;> omega) | (simp only [Int.toNat_natCast]; omega) | exact b2_in _)) ?_
      refine AW.ifb_eq (tgt := 62) (pc' := 45) dX12_mend_42 (fun c42 => ?_) (fun c42 => ?_)
      · refine AW.iconst (pc' := 63) dX12_mend_62 ?_
        refine AW.goto (tgt := 99) dX12_mend_63 ?_
        refine AW.istore4 (pc' := 101) dX12_mend_99 (by decide) rfl ?_
        refine AW.iload (pc' := 103) dX12_mend_101 rfl ?_
        refine AW.if_ne (tgt := 109) (pc' := 106) dX12_mend_103 (by first | assumption | omega | (constructor <;> omega) | (simp only [Int.toNat_natCast]; omega) | exact b2_in _) (fun c103 => ?_) (fun c103 => ?_)
        · first
            | (have mp : mPm (h 57 16) (h 57 14) a b v := by omega
               have c8 : 0 ≤ a ∧ a < 120 ∧ 0 ≤ b ∧ b ≤ 2 ∧ (b = 2 → a < 6) := by omega
               have z := tl_X12_mend109 (K := K) (dep := dep) hO q0 (a := a) (b := b) (v := v) (by omega) (by omega) (by omega) (by assumption) (by omega)
               rw [if_neg (fun y => y mp)]
               exact AW.weak (AW.post z (fun x hx => Or.inr ⟨mp, hx⟩)) (by (repeat' first | exact LSub.e | refine LSub.n ?_ | refine LSub.c ?_ ?_) <;> first | rfl | exact congrArg Sum.inl (by first | rfl | omega | omega)))
        · refine AW.ldc (v := -2000000000) (pc' := 108) dX12_mend_106 kX12_156 ?_
          refine AW.iret dX12_mend_108 ?_ ?_
          · first | (rw [if_pos (by omega)]; done) | omega
          · first | exact Or.inl ⟨by omega, rfl⟩ | omega
      · refine AW.iload_n (pc' := 46) dX12_mend_45 rfl ?_
        refine AW.iconst (pc' := 47) dX12_mend_46 ?_
        refine AW.icmp_eq (tgt := 58) (pc' := 50) dX12_mend_47 (by first | assumption | omega | (constructor <;> omega) | (simp only [Int.toNat_natCast]; omega) | exact b2_in _) (by first | assumption | omega | (constructor <;> omega) | (simp only [Int.toNat_natCast]; omega) | exact b2_in _) (fun c47 => ?_) (fun c47 => ?_)
        · refine AW.iconst (pc' := 59) dX12_mend_58 ?_
          refine AW.goto (tgt := 99) dX12_mend_59 ?_
          refine AW.istore4 (pc' := 101) dX12_mend_99 (by decide) rfl ?_
          refine AW.iload (pc' := 103) dX12_mend_101 rfl ?_
          refine AW.if_ne (tgt := 109) (pc' := 106) dX12_mend_103 (by first | assumption | omega | (constructor <;> omega) | (simp only [Int.toNat_natCast]; omega) | exact b2_in _) (fun c103 => ?_) (fun c103 => ?_)
          · first
              | (have mp : mPm (h 57 16) (h 57 14) a b v := by omega
                 have c8 : 0 ≤ a ∧ a < 120 ∧ 0 ≤ b ∧ b ≤ 2 ∧ (b = 2 → a < 6) := by omega
                 have z := tl_X12_mend109 (K := K) (dep := dep) hO q0 (a := a) (b := b) (v := v) (by omega) (by omega) (by omega) (by assumption) (by omega)
                 rw [if_neg (fun y => y mp)]
                 exact AW.weak (AW.post z (fun x hx => Or.inr ⟨mp, hx⟩)) (by (repeat' first | exact LSub.e | refine LSub.n ?_ | refine LSub.c ?_ ?_) <;> first | rfl | exact congrArg Sum.inl (by first | rfl | omega | omega)))
          · refine AW.ldc (v := -2000000000) (pc' := 108) dX12_mend_106 kX12_156 ?_
            refine AW.iret dX12_mend_108 ?_ ?_
            · first | (rw [if_pos (by omega)]; done) | omega
            · first | exact Or.inl ⟨by omega, rfl⟩ | omega
        · refine AW.aload_n (pc' := 51) dX12_mend_50 rfl ?_
          refine AW.iload_n (pc' := 52) dX12_mend_51 rfl ?_
          refine AW.invV1 (pc' := 55) dX12_mend_52 mlX12_138 mX12_isShoe ly_57 rfl (c_X12_isShoe (dep := dep - 1) (by first | assumption | omega | (constructor <;> omega) | (simp only [Int.toNat_natCast]; omega) | exact b2_in _)) ?_
          refine AW.ifb_eq (tgt := 62) (pc' := 58) dX12_mend_55 (fun c55 => ?_) (fun c55 => ?_)
          · refine AW.iconst (pc' := 63) dX12_mend_62 ?_
            refine AW.goto (tgt := 99) dX12_mend_63 ?_
            refine AW.istore4 (pc' := 101) dX12_mend_99 (by decide) rfl ?_
            refine AW.iload (pc' := 103) dX12_mend_101 rfl ?_
            refine AW.if_ne (tgt := 109) (pc' := 106) dX12_mend_103 (by first | assumption | omega | (constructor <;> omega) | (simp only [Int.toNat_natCast]; omega) | exact b2_in _) (fun c103 => ?_) (fun c103 => ?_)
            · first
                | (have mp : mPm (h 57 16) (h 57 14) a b v := by omega
                   have c8 : 0 ≤ a ∧ a < 120 ∧ 0 ≤ b ∧ b ≤ 2 ∧ (b = 2 → a < 6) := by omega
                   have z := tl_X12_mend109 (K := K) (dep := dep) hO q0 (a := a) (b := b) (v := v) (by omega) (by omega) (by omega) (by assumption) (by omega)
                   rw [if_neg (fun y => y mp)]
                   exact AW.weak (AW.post z (fun x hx => Or.inr ⟨mp, hx⟩)) (by (repeat' first | exact LSub.e | refine LSub.n ?_ | refine LSub.c ?_ ?_) <;> first | rfl | exact congrArg Sum.inl (by first | rfl | omega | omega)))
            · refine AW.ldc (v := -2000000000) (pc' := 108) dX12_mend_106 kX12_156 ?_
              refine AW.iret dX12_mend_108 ?_ ?_
              · first | (rw [if_pos (by omega)]; done) | omega
              · first | exact Or.inl ⟨by omega, rfl⟩ | omega
          · refine AW.iconst (pc' := 59) dX12_mend_58 ?_
            refine AW.goto (tgt := 99) dX12_mend_59 ?_
            refine AW.istore4 (pc' := 101) dX12_mend_99 (by decide) rfl ?_
            refine AW.iload (pc' := 103) dX12_mend_101 rfl ?_
            refine AW.if_ne (tgt := 109) (pc' := 106) dX12_mend_103 (by first | assumption | omega | (constructor <;> omega) | (simp only [Int.toNat_natCast]; omega) | exact b2_in _) (fun c103 => ?_) (fun c103 => ?_)
            · first
                | (have mp : mPm (h 57 16) (h 57 14) a b v := by omega
                   have c8 : 0 ≤ a ∧ a < 120 ∧ 0 ≤ b ∧ b ≤ 2 ∧ (b = 2 → a < 6) := by omega
                   have z := tl_X12_mend109 (K := K) (dep := dep) hO q0 (a := a) (b := b) (v := v) (by omega) (by omega) (by omega) (by assumption) (by omega)
                   rw [if_neg (fun y => y mp)]
                   exact AW.weak (AW.post z (fun x hx => Or.inr ⟨mp, hx⟩)) (by (repeat' first | exact LSub.e | refine LSub.n ?_ | refine LSub.c ?_ ?_) <;> first | rfl | exact congrArg Sum.inl (by first | rfl | omega | omega)))
            · refine AW.ldc (v := -2000000000) (pc' := 108) dX12_mend_106 kX12_156 ?_
              refine AW.iret dX12_mend_108 ?_ ?_
              · first | (rw [if_pos (by omega)]; done) | omega
              · first | exact Or.inl ⟨by omega, rfl⟩ | omega
  · refine AW.aload_n (pc' := 5) dX12_mend_4 rfl ?_
    refine AW.iload_n (pc' := 6) dX12_mend_5 rfl ?_
    refine AW.invV1 (pc' := 9) dX12_mend_6 mlX12_153 mX12_isRun ly_57 rfl (c_X12_isRun (dep := dep - 1) (by first | assumption | omega | (constructor <;> omega) | (simp only [Int.toNat_natCast]; omega) | exact b2_in _)) ?_
    refine AW.ifb_eq (tgt := 28) (pc' := 12) dX12_mend_9 (fun c9 => ?_) (fun c9 => ?_)
    · refine AW.iconst (pc' := 29) dX12_mend_28 ?_
      refine AW.goto (tgt := 99) dX12_mend_29 ?_
      refine AW.istore4 (pc' := 101) dX12_mend_99 (by decide) rfl ?_
      refine AW.iload (pc' := 103) dX12_mend_101 rfl ?_
      refine AW.if_ne (tgt := 109) (pc' := 106) dX12_mend_103 (by first | assumption | omega | (constructor <;> omega) | (simp only [Int.toNat_natCast]; omega) | exact b2_in _) (fun c103 => ?_) (fun c103 => ?_)
      · first
          | (have mp : mPm (h 57 16) (h 57 14) a b v := by omega
             have c8 : 0 ≤ a ∧ a < 120 ∧ 0 ≤ b ∧ b ≤ 2 ∧ (b = 2 → a < 6) := by omega
             have z := tl_X12_mend109 (K := K) (dep := dep) hO q0 (a := a) (b := b) (v := v) (by omega) (by omega) (by omega) (by assumption) (by omega)
             rw [if_neg (fun y => y mp)]
             exact AW.weak (AW.post z (fun x hx => Or.inr ⟨mp, hx⟩)) (by (repeat' first | exact LSub.e | refine LSub.n ?_ | refine LSub.c ?_ ?_) <;> first | rfl | exact congrArg Sum.inl (by first | rfl | omega | omega)))
      · refine AW.ldc (v := -2000000000) (pc' := 108) dX12_mend_106 kX12_156 ?_
        refine AW.iret dX12_mend_108 ?_ ?_
        · first | (rw [if_pos (by omega)]; done) | omega
        · first | exact Or.inl ⟨by omega, rfl⟩ | omega
    · refine AW.iload_n (pc' := 13) dX12_mend_12 rfl ?_
      refine AW.bipush (pc' := 15) dX12_mend_13 (by decide) ?_
      refine AW.sipush (pc' := 18) dX12_mend_15 (by decide) ?_
      refine AW.invS3 (pc' := 21) dX12_mend_18 mlX12_117 mX12_isIn (c_X12_isIn (dep := dep - 1) (by first | assumption | omega | (constructor <;> omega) | (simp only [Int.toNat_natCast]; omega) | exact b2_in _) (by first | assumption | omega | (constructor <;> omega) | (simp only [Int.toNat_natCast]; omega) | exact b2_in _) (by first | assumption | omega | (constructor <;> omega) | (simp only [Int.toNat_natCast]; omega) | exact b2_in _)) ?_
      refine AW.ifb_eq (tgt := 28) (pc' := 24) dX12_mend_21 (fun c21 => ?_) (fun c21 => ?_)
      · refine AW.iconst (pc' := 29) dX12_mend_28 ?_
        refine AW.goto (tgt := 99) dX12_mend_29 ?_
        refine AW.istore4 (pc' := 101) dX12_mend_99 (by decide) rfl ?_
        refine AW.iload (pc' := 103) dX12_mend_101 rfl ?_
        refine AW.if_ne (tgt := 109) (pc' := 106) dX12_mend_103 (by first | assumption | omega | (constructor <;> omega) | (simp only [Int.toNat_natCast]; omega) | exact b2_in _) (fun c103 => ?_) (fun c103 => ?_)
        · first
            | (have mp : mPm (h 57 16) (h 57 14) a b v := by omega
               have c8 : 0 ≤ a ∧ a < 120 ∧ 0 ≤ b ∧ b ≤ 2 ∧ (b = 2 → a < 6) := by omega
               have z := tl_X12_mend109 (K := K) (dep := dep) hO q0 (a := a) (b := b) (v := v) (by omega) (by omega) (by omega) (by assumption) (by omega)
               rw [if_neg (fun y => y mp)]
               exact AW.weak (AW.post z (fun x hx => Or.inr ⟨mp, hx⟩)) (by (repeat' first | exact LSub.e | refine LSub.n ?_ | refine LSub.c ?_ ?_) <;> first | rfl | exact congrArg Sum.inl (by first | rfl | omega | omega)))
        · refine AW.ldc (v := -2000000000) (pc' := 108) dX12_mend_106 kX12_156 ?_
          refine AW.iret dX12_mend_108 ?_ ?_
          · first | (rw [if_pos (by omega)]; done) | omega
          · first | exact Or.inl ⟨by omega, rfl⟩ | omega
      · refine AW.iconst (pc' := 25) dX12_mend_24 ?_
        refine AW.goto (tgt := 99) dX12_mend_25 ?_
        refine AW.istore4 (pc' := 101) dX12_mend_99 (by decide) rfl ?_
        refine AW.iload (pc' := 103) dX12_mend_101 rfl ?_
        refine AW.if_ne (tgt := 109) (pc' := 106) dX12_mend_103 (by first | assumption | omega | (constructor <;> omega) | (simp only [Int.toNat_natCast]; omega) | exact b2_in _) (fun c103 => ?_) (fun c103 => ?_)
        · first
            | (have mp : mPm (h 57 16) (h 57 14) a b v := by omega
               have c8 : 0 ≤ a ∧ a < 120 ∧ 0 ≤ b ∧ b ≤ 2 ∧ (b = 2 → a < 6) := by omega
               have z := tl_X12_mend109 (K := K) (dep := dep) hO q0 (a := a) (b := b) (v := v) (by omega) (by omega) (by omega) (by assumption) (by omega)
               rw [if_neg (fun y => y mp)]
               exact AW.weak (AW.post z (fun x hx => Or.inr ⟨mp, hx⟩)) (by (repeat' first | exact LSub.e | refine LSub.n ?_ | refine LSub.c ?_ ?_) <;> first | rfl | exact congrArg Sum.inl (by first | rfl | omega | omega)))
        · refine AW.ldc (v := -2000000000) (pc' := 108) dX12_mend_106 kX12_156 ?_
          refine AW.iret dX12_mend_108 ?_ ?_
          · first | (rw [if_pos (by omega)]; done) | omega
          · first | exact Or.inl ⟨by omega, rfl⟩ | omega
