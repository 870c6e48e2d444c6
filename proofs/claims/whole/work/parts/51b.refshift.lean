/-! shift: the reference -/
def cpR (row : Nat → Int) (s d n j : Nat) : Int := if d ≤ j ∧ j < d + n then row (s + (j - d)) else row j
theorem cpR_st {row : Nat → Int} {s d k : Nat} {r1 r2 : Nat → Int} (t : ∀ j, r1 j = cpR row s d k j) (v : Int) (hv : v = row (s + k)) (e : ∀ j, r2 j = if j = d + k then v else r1 j) : ∀ j, r2 j = cpR row s d (k + 1) j := by
  intro j
  rw [e j, t j]
  unfold cpR
  by_cases z : j = d + k
  · subst z
    rw [if_pos rfl, if_pos (by omega), hv, show d + k - d = k by omega]
  · rw [if_neg z]
    by_cases y : d ≤ j ∧ j < d + k
    · rw [if_pos y, if_pos (by omega)]
    · rw [if_neg y, if_neg (by omega)]
set_option maxRecDepth 100000 in
set_option maxHeartbeats 4000000 in
theorem lp_X12_shift1 {K : KT} {X : XT} {dep : Nat} {h : Hp} {a b c d e : Int} (qa : 0 ≤ a ∧ a < 6) (qb : 0 ≤ b ∧ b + e ≤ 60)  : ∀ (m k : Nat) (h1 : Hp), (k : Int) + m = e → EX [90] h h1 → (∀ j : Nat, j < k → h1 90 j = h 89 (60 * a.toNat + b.toNat + j)) → (∀ h2 : Hp, EX [90] h h2 → (∀ j : Nat, (j : Int) < e → h2 90 j = h 89 (60 * a.toNat + b.toNat + j)) → AW K X RX12 cX12_shift 7 (some .int) dep 149 [some (vR 57), some (vI (a)), some (vI (b)), some (vI (c)), some (vI (d)), some (vI (e)), none] [] h2) → AW K X RX12 cX12_shift 7 (some .int) dep 115 [some (vR 57), some (vI (a)), some (vI (b)), some (vI (c)), some (vI (d)), some (vI (e)), some (vI ((k : Int)))] [] h1 := by
  intro m
  induction m with
  | zero =>
    intro k h1 hk e1 t1 kk
    refine AW.iload (pc' := 117) dX12_shift_115 rfl ?_
    refine AW.iload (pc' := 119) dX12_shift_117 rfl ?_
    refine AW.icmp_ge (tgt := 149) (pc' := 122) dX12_shift_119 (by first | assumption | omega | (constructor <;> omega) | (simp only [Int.toNat_natCast]; omega) | exact b2_in _) (by first | assumption | omega | (constructor <;> omega) | (simp only [Int.toNat_natCast]; omega) | exact b2_in _) (fun c119 => ?_) (fun c119 => ?_)
    · exact AW.weak (kk h1 e1 (fun j hj => t1 j (by omega))) (by (repeat' first | exact LSub.e | refine LSub.n ?_ | refine LSub.c ?_ ?_) <;> first | rfl | exact congrArg Sum.inl (by first | rfl | omega | omega) | exact congrArg (fun z : Int => (vL z : AV)) (by first | rfl | omega | omega))
    · omega
  | succ m ih =>
    intro k h1 hk e1 t1 kk
    have w89 := e1 89 rfl
    have ek : (60 * a + b + (k : Int)).toNat = 60 * a.toNat + b.toNat + k := by omega
    refine AW.iload (pc' := 117) dX12_shift_115 rfl ?_
    refine AW.iload (pc' := 119) dX12_shift_117 rfl ?_
    refine AW.icmp_ge (tgt := 149) (pc' := 122) dX12_shift_119 (by first | assumption | omega | (constructor <;> omega) | (simp only [Int.toNat_natCast]; omega) | exact b2_in _) (by first | assumption | omega | (constructor <;> omega) | (simp only [Int.toNat_natCast]; omega) | exact b2_in _) (fun c119 => ?_) (fun c119 => ?_)
    · omega
    · refine AW.aload_n (pc' := 123) dX12_shift_122 rfl ?_
      refine AW.getR (pc' := 126) dX12_shift_123 ly_57 fX12_111 rfl ?_
      refine AW.iload (pc' := 128) dX12_shift_126 rfl ?_
      refine AW.aload_n (pc' := 129) dX12_shift_128 rfl ?_
      refine AW.getR (pc' := 132) dX12_shift_129 ly_57 fX12_107 rfl ?_
      refine AW.bipush (pc' := 134) dX12_shift_132 (by decide) ?_
      refine AW.iload_n (pc' := 135) dX12_shift_134 rfl ?_
      refine AW.imul (pc' := 136) dX12_shift_135 ?_
      refine AW.iload_n (pc' := 137) dX12_shift_136 rfl ?_
      refine AW.iadd (pc' := 138) dX12_shift_137 ?_
      refine AW.iload (pc' := 140) dX12_shift_138 rfl ?_
      refine AW.iadd (pc' := 141) dX12_shift_140 ?_
      first | refine AW.laldN (pc' := 142) dX12_shift_141 ly_89 (by first | assumption | omega | (constructor <;> omega) | (simp only [Int.toNat_natCast]; omega) | exact b2_in _) (by decide) (fun r141 => ?_) | refine AW.lald (pc' := 142) dX12_shift_141 ly_89 (by first | assumption | omega | (constructor <;> omega) | (simp only [Int.toNat_natCast]; omega) | exact b2_in _) (by first | assumption | omega | (constructor <;> omega) | (simp only [Int.toNat_natCast]; omega) | exact b2_in _) (by decide) (fun r141 => ?_)
      try simp only [w89, Int.toNat_natCast, ek] at r141 ⊢
      first | refine AW.lastN (pc' := 143) dX12_shift_142 ly_90 (by first | assumption | omega | (constructor <;> omega) | (simp only [Int.toNat_natCast]; omega) | exact b2_in _) (by decide) (by first | assumption | omega | (constructor <;> omega) | (simp only [Int.toNat_natCast]; omega) | exact b2_in _) ?_ | refine AW.last (pc' := 143) dX12_shift_142 ly_90 (by first | assumption | omega | (constructor <;> omega) | (simp only [Int.toNat_natCast]; omega) | exact b2_in _) (by first | assumption | omega | (constructor <;> omega) | (simp only [Int.toNat_natCast]; omega) | exact b2_in _) (by decide) (by first | assumption | omega | (constructor <;> omega) | (simp only [Int.toNat_natCast]; omega) | exact b2_in _) ?_
      refine AW.iinc6 (pc' := 146) dX12_shift_143 (by decide) rfl ?_
      refine AW.goto (tgt := 115) dX12_shift_146 ?_
      exact AW.weak (ih (k + 1) _ (by omega) (e1.st rfl) (fun j hj => by
          simp only [hset_app, true_and, Int.toNat_natCast]
          by_cases z : j = k
          · subst z; rw [if_pos rfl]
          · rw [if_neg z]; exact t1 j (by omega)) kk) (by (repeat' first | exact LSub.e | refine LSub.n ?_ | refine LSub.c ?_ ?_) <;> first | rfl | exact congrArg Sum.inl (by first | rfl | omega | (push_cast; omega)) | exact congrArg (fun z : Int => (vL z : AV)) (by first | rfl | omega | (push_cast; omega)))
set_option maxRecDepth 100000 in
set_option maxHeartbeats 4000000 in
theorem lp_X12_shift2 {K : KT} {X : XT} {dep : Nat} {h g : Hp} {a b c d e : Int} (qc : 0 ≤ c ∧ c < 6) (qd : 0 ≤ d ∧ d + e ≤ 60) (hg : g 89 = h 89) (ht : ∀ j : Nat, (j : Int) < e → g 90 j = h 89 (60 * a.toNat + b.toNat + j))  : ∀ (m k : Nat) (h1 : Hp), (k : Int) + m = e → EX [89] g h1 → (∀ j : Nat, h1 89 j = cpR (h 89) (60 * a.toNat + b.toNat) (60 * c.toNat + d.toNat) k j) → (∀ h2 : Hp, EX [89] g h2 → (∀ j : Nat, h2 89 j = cpR (h 89) (60 * a.toNat + b.toNat) (60 * c.toNat + d.toNat) e.toNat j) → AW K X RX12 cX12_shift 7 (some .int) dep 187 [some (vR 57), some (vI (a)), some (vI (b)), some (vI (c)), some (vI (d)), some (vI (e)), none] [] h2) → AW K X RX12 cX12_shift 7 (some .int) dep 152 [some (vR 57), some (vI (a)), some (vI (b)), some (vI (c)), some (vI (d)), some (vI (e)), some (vI ((k : Int)))] [] h1 := by
  intro m
  induction m with
  | zero =>
    intro k h1 hk e1 t1 kk
    have ek : e.toNat = k := by omega
    refine AW.iload (pc' := 154) dX12_shift_152 rfl ?_
    refine AW.iload (pc' := 156) dX12_shift_154 rfl ?_
    refine AW.icmp_ge (tgt := 187) (pc' := 159) dX12_shift_156 (by first | assumption | omega | (constructor <;> omega) | (simp only [Int.toNat_natCast]; omega) | exact b2_in _) (by first | assumption | omega | (constructor <;> omega) | (simp only [Int.toNat_natCast]; omega) | exact b2_in _) (fun c156 => ?_) (fun c156 => ?_)
    · exact AW.weak (kk h1 e1 (by rw [ek]; exact t1)) (by (repeat' first | exact LSub.e | refine LSub.n ?_ | refine LSub.c ?_ ?_) <;> first | rfl | exact congrArg Sum.inl (by first | rfl | omega | omega) | exact congrArg (fun z : Int => (vL z : AV)) (by first | rfl | omega | omega))
    · omega
  | succ m ih =>
    intro k h1 hk e1 t1 kk
    have w90 := e1 90 rfl
    have hk2 := ht k (by omega)
    have ek : (60 * c + d + (k : Int)).toNat = 60 * c.toNat + d.toNat + k := by omega
    refine AW.iload (pc' := 154) dX12_shift_152 rfl ?_
    refine AW.iload (pc' := 156) dX12_shift_154 rfl ?_
    refine AW.icmp_ge (tgt := 187) (pc' := 159) dX12_shift_156 (by first | assumption | omega | (constructor <;> omega) | (simp only [Int.toNat_natCast]; omega) | exact b2_in _) (by first | assumption | omega | (constructor <;> omega) | (simp only [Int.toNat_natCast]; omega) | exact b2_in _) (fun c156 => ?_) (fun c156 => ?_)
    · omega
    · refine AW.aload_n (pc' := 160) dX12_shift_159 rfl ?_
      refine AW.getR (pc' := 163) dX12_shift_160 ly_57 fX12_107 rfl ?_
      refine AW.bipush (pc' := 165) dX12_shift_163 (by decide) ?_
      refine AW.iload_n (pc' := 166) dX12_shift_165 rfl ?_
      refine AW.imul (pc' := 167) dX12_shift_166 ?_
      refine AW.iload (pc' := 169) dX12_shift_167 rfl ?_
      refine AW.iadd (pc' := 170) dX12_shift_169 ?_
      refine AW.iload (pc' := 172) dX12_shift_170 rfl ?_
      refine AW.iadd (pc' := 173) dX12_shift_172 ?_
      refine AW.aload_n (pc' := 174) dX12_shift_173 rfl ?_
      refine AW.getR (pc' := 177) dX12_shift_174 ly_57 fX12_111 rfl ?_
      refine AW.iload (pc' := 179) dX12_shift_177 rfl ?_
      first | refine AW.laldN (pc' := 180) dX12_shift_179 ly_90 (by first | assumption | omega | (constructor <;> omega) | (simp only [Int.toNat_natCast]; omega) | exact b2_in _) (by decide) (fun r179 => ?_) | refine AW.lald (pc' := 180) dX12_shift_179 ly_90 (by first | assumption | omega | (constructor <;> omega) | (simp only [Int.toNat_natCast]; omega) | exact b2_in _) (by first | assumption | omega | (constructor <;> omega) | (simp only [Int.toNat_natCast]; omega) | exact b2_in _) (by decide) (fun r179 => ?_)
      try simp only [w90, Int.toNat_natCast] at r179 ⊢
      first | refine AW.lastN (pc' := 181) dX12_shift_180 ly_89 (by first | assumption | omega | (constructor <;> omega) | (simp only [Int.toNat_natCast]; omega) | exact b2_in _) (by decide) (by first | assumption | omega | (constructor <;> omega) | (simp only [Int.toNat_natCast]; omega) | exact b2_in _) ?_ | refine AW.last (pc' := 181) dX12_shift_180 ly_89 (by first | assumption | omega | (constructor <;> omega) | (simp only [Int.toNat_natCast]; omega) | exact b2_in _) (by first | assumption | omega | (constructor <;> omega) | (simp only [Int.toNat_natCast]; omega) | exact b2_in _) (by decide) (by first | assumption | omega | (constructor <;> omega) | (simp only [Int.toNat_natCast]; omega) | exact b2_in _) ?_
      refine AW.iinc6 (pc' := 184) dX12_shift_181 (by decide) rfl ?_
      refine AW.goto (tgt := 152) dX12_shift_184 ?_
      exact AW.weak (ih (k + 1) _ (by omega) (e1.st rfl) (cpR_st t1 (g 90 k) hk2 (fun j => by
          simp only [hset_app, true_and, ek])) kk) (by (repeat' first | exact LSub.e | refine LSub.n ?_ | refine LSub.c ?_ ?_) <;> first | rfl | exact congrArg Sum.inl (by first | rfl | omega | (push_cast; omega)) | exact congrArg (fun z : Int => (vL z : AV)) (by first | rfl | omega | (push_cast; omega)))
set_option maxRecDepth 100000 in
set_option maxHeartbeats 4000000 in
theorem c_X12_shift {K : KT} {dep : Nat} {h : Hp} {a b c d e : Int} (hd : 1 ≤ dep) (qp : PSheM (h 86) (h 88)) (q1 : inI a) (q2 : inI b) (q3 : inI c) (q4 : inI d) (q5 : inI e) : AMp K yX12_shift cX12_shift 7 (some .int) dep [vR 57, vI a, vI b, vI c, vI d, vI e] h (some (vI (if ¬ ((0 ≤ a ∧ a < 6) ∧ (0 ≤ c ∧ c < 6)) then -1 else if h 86 a.toNat = -2 ∨ h 86 c.toNat = -2 then -11 else if h 86 a.toNat < 0 ∨ h 86 a.toNat ≠ h 86 c.toNat then -12 else if ¬ ((0 ≤ b ∧ 0 ≤ d ∧ 0 ≤ e) ∧ b ≤ h 88 a.toNat - e ∧ d ≤ h 88 c.toNat - e) then -13 else e))) (fun x => (¬ (((0 ≤ a ∧ a < 6) ∧ (0 ≤ c ∧ c < 6)) ∧ ¬ (h 86 a.toNat = -2 ∨ h 86 c.toNat = -2) ∧ ¬ (h 86 a.toNat < 0 ∨ h 86 a.toNat ≠ h 86 c.toNat) ∧ ((0 ≤ b ∧ 0 ≤ d ∧ 0 ≤ e) ∧ b ≤ h 88 a.toNat - e ∧ d ≤ h 88 c.toNat - e)) ∧ x = h) ∨ ((((0 ≤ a ∧ a < 6) ∧ (0 ≤ c ∧ c < 6)) ∧ ¬ (h 86 a.toNat = -2 ∨ h 86 c.toNat = -2) ∧ ¬ (h 86 a.toNat < 0 ∨ h 86 a.toNat ≠ h 86 c.toNat) ∧ ((0 ≤ b ∧ 0 ≤ d ∧ 0 ≤ e) ∧ b ≤ h 88 a.toNat - e ∧ d ≤ h 88 c.toNat - e)) ∧ EX [89, 90] h x ∧ ∀ j : Nat, x 89 j = cpR (h 89) (60 * a.toNat + b.toNat) (60 * c.toNat + d.toNat) e.toNat j)) := by
  refine AM.of (own := RX12) (ls := [some (vR 57), some (vI a), some (vI b), some (vI c), some (vI d), some (vI e), none]) rfl (by decide +kernel) (by exact Nat.le_of_ble_eq_true rfl) rfl (fun hO => ?_)
  have qpa : 0 ≤ a → a < 6 → -2 ≤ h 86 a.toNat ∧ h 86 a.toNat ≤ 4 ∧ 0 ≤ h 88 a.toNat ∧ h 88 a.toNat ≤ 60 := fun z1 z2 => qp a.toNat (by omega)
  have qpc : 0 ≤ c → c < 6 → -2 ≤ h 86 c.toNat ∧ h 86 c.toNat ≤ 4 ∧ 0 ≤ h 88 c.toNat ∧ h 88 c.toNat ≤ 60 := fun z1 z2 => qp c.toNat (by omega)
  refine AW.iload_n (pc' := 1) dX12_shift_0 rfl ?_
  refine AW.invS1 (pc' := 4) dX12_shift_1 mlX12_360 mX12_isShelf (c_X12_isShelf (dep := dep - 1) (by first | assumption | omega | (constructor <;> omega) | (simp only [Int.toNat_natCast]; omega) | exact b2_in _)) ?_
  refine AW.ifb_eq (tgt := 14) (pc' := 7) dX12_shift_4 (fun c4 => ?_) (fun c4 => ?_)
  · refine AW.iconst (pc' := 15) dX12_shift_14 ?_
    refine AW.iret dX12_shift_15 ?_ ?_
    · refine congrArg (fun z : Int => (some (vI z) : Option AV)) ?_
      first | (rw [if_pos (by omega)]; done) | (rw [if_neg (by omega), if_pos (by omega)]; done) | (rw [if_neg (by omega), if_neg (by omega), if_pos (by omega)]; done) | (rw [if_neg (by omega), if_neg (by omega), if_neg (by omega), if_pos (by omega)]; done) | (rw [if_neg (by omega), if_neg (by omega), if_neg (by omega), if_neg (by omega)])
    · first | exact Or.inr ⟨ok, (e2.wd (fun k hk => by simp at hk ⊢; omega)).tr (e3.wd (fun k hk => by simp at hk ⊢; omega)), t3⟩ | exact Or.inl ⟨by omega, rfl⟩
  · refine AW.iload_n (pc' := 8) dX12_shift_7 rfl ?_
    refine AW.invS1 (pc' := 11) dX12_shift_8 mlX12_360 mX12_isShelf (c_X12_isShelf (dep := dep - 1) (by first | assumption | omega | (constructor <;> omega) | (simp only [Int.toNat_natCast]; omega) | exact b2_in _)) ?_
    refine AW.ifb_ne (tgt := 16) (pc' := 14) dX12_shift_11 (fun c11 => ?_) (fun c11 => ?_)
    · have qpa1 := qpa (by omega) (by omega)
      have qpc1 := qpc (by omega) (by omega)
      refine AW.aload_n (pc' := 17) dX12_shift_16 rfl ?_
      refine AW.getR (pc' := 20) dX12_shift_17 ly_57 fX12_98 rfl ?_
      refine AW.iload_n (pc' := 21) dX12_shift_20 rfl ?_
      first | refine AW.ialdN (pc' := 22) dX12_shift_21 ly_86 (by first | assumption | omega | (constructor <;> omega) | (simp only [Int.toNat_natCast]; omega) | exact b2_in _) (by decide) (fun r21 => ?_) | refine AW.iald (pc' := 22) dX12_shift_21 ly_86 (by first | assumption | omega | (constructor <;> omega) | (simp only [Int.toNat_natCast]; omega) | exact b2_in _) (by first | assumption | omega | (constructor <;> omega) | (simp only [Int.toNat_natCast]; omega) | exact b2_in _) (by decide) (fun r21 => ?_)
      refine AW.bipush (pc' := 24) dX12_shift_22 (by decide) ?_
      refine AW.icmp_eq (tgt := 38) (pc' := 27) dX12_shift_24 (by first | assumption | omega | (constructor <;> omega) | (simp only [Int.toNat_natCast]; omega) | exact b2_in _) (by first | assumption | omega | (constructor <;> omega) | (simp only [Int.toNat_natCast]; omega) | exact b2_in _) (fun c24 => ?_) (fun c24 => ?_)
      · refine AW.bipush (pc' := 40) dX12_shift_38 (by decide) ?_
        refine AW.iret dX12_shift_40 ?_ ?_
        · refine congrArg (fun z : Int => (some (vI z) : Option AV)) ?_
          first | (rw [if_pos (by omega)]; done) | (rw [if_neg (by omega), if_pos (by omega)]; done) | (rw [if_neg (by omega), if_neg (by omega), if_pos (by omega)]; done) | (rw [if_neg (by omega), if_neg (by omega), if_neg (by omega), if_pos (by omega)]; done) | (rw [if_neg (by omega), if_neg (by omega), if_neg (by omega), if_neg (by omega)])
        · first | exact Or.inr ⟨ok, (e2.wd (fun k hk => by simp at hk ⊢; omega)).tr (e3.wd (fun k hk => by simp at hk ⊢; omega)), t3⟩ | exact Or.inl ⟨by omega, rfl⟩
      · refine AW.aload_n (pc' := 28) dX12_shift_27 rfl ?_
        refine AW.getR (pc' := 31) dX12_shift_28 ly_57 fX12_98 rfl ?_
        refine AW.iload_n (pc' := 32) dX12_shift_31 rfl ?_
        first | refine AW.ialdN (pc' := 33) dX12_shift_32 ly_86 (by first | assumption | omega | (constructor <;> omega) | (simp only [Int.toNat_natCast]; omega) | exact b2_in _) (by decide) (fun r32 => ?_) | refine AW.iald (pc' := 33) dX12_shift_32 ly_86 (by first | assumption | omega | (constructor <;> omega) | (simp only [Int.toNat_natCast]; omega) | exact b2_in _) (by first | assumption | omega | (constructor <;> omega) | (simp only [Int.toNat_natCast]; omega) | exact b2_in _) (by decide) (fun r32 => ?_)
        refine AW.bipush (pc' := 35) dX12_shift_33 (by decide) ?_
        refine AW.icmp_ne (tgt := 41) (pc' := 38) dX12_shift_35 (by first | assumption | omega | (constructor <;> omega) | (simp only [Int.toNat_natCast]; omega) | exact b2_in _) (by first | assumption | omega | (constructor <;> omega) | (simp only [Int.toNat_natCast]; omega) | exact b2_in _) (fun c35 => ?_) (fun c35 => ?_)
        · refine AW.aload_n (pc' := 42) dX12_shift_41 rfl ?_
          refine AW.getR (pc' := 45) dX12_shift_42 ly_57 fX12_98 rfl ?_
          refine AW.iload_n (pc' := 46) dX12_shift_45 rfl ?_
          first | refine AW.ialdN (pc' := 47) dX12_shift_46 ly_86 (by first | assumption | omega | (constructor <;> omega) | (simp only [Int.toNat_natCast]; omega) | exact b2_in _) (by decide) (fun r46 => ?_) | refine AW.iald (pc' := 47) dX12_shift_46 ly_86 (by first | assumption | omega | (constructor <;> omega) | (simp only [Int.toNat_natCast]; omega) | exact b2_in _) (by first | assumption | omega | (constructor <;> omega) | (simp only [Int.toNat_natCast]; omega) | exact b2_in _) (by decide) (fun r46 => ?_)
          refine AW.if_lt (tgt := 65) (pc' := 50) dX12_shift_47 (by first | assumption | omega | (constructor <;> omega) | (simp only [Int.toNat_natCast]; omega) | exact b2_in _) (fun c47 => ?_) (fun c47 => ?_)
          · refine AW.bipush (pc' := 67) dX12_shift_65 (by decide) ?_
            refine AW.iret dX12_shift_67 ?_ ?_
            · refine congrArg (fun z : Int => (some (vI z) : Option AV)) ?_
              first | (rw [if_pos (by omega)]; done) | (rw [if_neg (by omega), if_pos (by omega)]; done) | (rw [if_neg (by omega), if_neg (by omega), if_pos (by omega)]; done) | (rw [if_neg (by omega), if_neg (by omega), if_neg (by omega), if_pos (by omega)]; done) | (rw [if_neg (by omega), if_neg (by omega), if_neg (by omega), if_neg (by omega)])
            · first | exact Or.inr ⟨ok, (e2.wd (fun k hk => by simp at hk ⊢; omega)).tr (e3.wd (fun k hk => by simp at hk ⊢; omega)), t3⟩ | exact Or.inl ⟨by omega, rfl⟩
          · refine AW.aload_n (pc' := 51) dX12_shift_50 rfl ?_
            refine AW.getR (pc' := 54) dX12_shift_51 ly_57 fX12_98 rfl ?_
            refine AW.iload_n (pc' := 55) dX12_shift_54 rfl ?_
            first | refine AW.ialdN (pc' := 56) dX12_shift_55 ly_86 (by first | assumption | omega | (constructor <;> omega) | (simp only [Int.toNat_natCast]; omega) | exact b2_in _) (by decide) (fun r55 => ?_) | refine AW.iald (pc' := 56) dX12_shift_55 ly_86 (by first | assumption | omega | (constructor <;> omega) | (simp only [Int.toNat_natCast]; omega) | exact b2_in _) (by first | assumption | omega | (constructor <;> omega) | (simp only [Int.toNat_natCast]; omega) | exact b2_in _) (by decide) (fun r55 => ?_)
            refine AW.aload_n (pc' := 57) dX12_shift_56 rfl ?_
            refine AW.getR (pc' := 60) dX12_shift_57 ly_57 fX12_98 rfl ?_
            refine AW.iload_n (pc' := 61) dX12_shift_60 rfl ?_
            first | refine AW.ialdN (pc' := 62) dX12_shift_61 ly_86 (by first | assumption | omega | (constructor <;> omega) | (simp only [Int.toNat_natCast]; omega) | exact b2_in _) (by decide) (fun r61 => ?_) | refine AW.iald (pc' := 62) dX12_shift_61 ly_86 (by first | assumption | omega | (constructor <;> omega) | (simp only [Int.toNat_natCast]; omega) | exact b2_in _) (by first | assumption | omega | (constructor <;> omega) | (simp only [Int.toNat_natCast]; omega) | exact b2_in _) (by decide) (fun r61 => ?_)
            refine AW.icmp_eq (tgt := 68) (pc' := 65) dX12_shift_62 (by first | assumption | omega | (constructor <;> omega) | (simp only [Int.toNat_natCast]; omega) | exact b2_in _) (by first | assumption | omega | (constructor <;> omega) | (simp only [Int.toNat_natCast]; omega) | exact b2_in _) (fun c62 => ?_) (fun c62 => ?_)
            · refine AW.iload_n (pc' := 69) dX12_shift_68 rfl ?_
              refine AW.if_lt (tgt := 109) (pc' := 72) dX12_shift_69 (by first | assumption | omega | (constructor <;> omega) | (simp only [Int.toNat_natCast]; omega) | exact b2_in _) (fun c69 => ?_) (fun c69 => ?_)
              · refine AW.bipush (pc' := 111) dX12_shift_109 (by decide) ?_
                refine AW.iret dX12_shift_111 ?_ ?_
                · refine congrArg (fun z : Int => (some (vI z) : Option AV)) ?_
                  first | (rw [if_pos (by omega)]; done) | (rw [if_neg (by omega), if_pos (by omega)]; done) | (rw [if_neg (by omega), if_neg (by omega), if_pos (by omega)]; done) | (rw [if_neg (by omega), if_neg (by omega), if_neg (by omega), if_pos (by omega)]; done) | (rw [if_neg (by omega), if_neg (by omega), if_neg (by omega), if_neg (by omega)])
                · first | exact Or.inr ⟨ok, (e2.wd (fun k hk => by simp at hk ⊢; omega)).tr (e3.wd (fun k hk => by simp at hk ⊢; omega)), t3⟩ | exact Or.inl ⟨by omega, rfl⟩
              · refine AW.iload (pc' := 74) dX12_shift_72 rfl ?_
                refine AW.if_lt (tgt := 109) (pc' := 77) dX12_shift_74 (by first | assumption | omega | (constructor <;> omega) | (simp only [Int.toNat_natCast]; omega) | exact b2_in _) (fun c74 => ?_) (fun c74 => ?_)
                · refine AW.bipush (pc' := 111) dX12_shift_109 (by decide) ?_
                  refine AW.iret dX12_shift_111 ?_ ?_
                  · refine congrArg (fun z : Int => (some (vI z) : Option AV)) ?_
                    first | (rw [if_pos (by omega)]; done) | (rw [if_neg (by omega), if_pos (by omega)]; done) | (rw [if_neg (by omega), if_neg (by omega), if_pos (by omega)]; done) | (rw [if_neg (by omega), if_neg (by omega), if_neg (by omega), if_pos (by omega)]; done) | (rw [if_neg (by omega), if_neg (by omega), if_neg (by omega), if_neg (by omega)])
                  · first | exact Or.inr ⟨ok, (e2.wd (fun k hk => by simp at hk ⊢; omega)).tr (e3.wd (fun k hk => by simp at hk ⊢; omega)), t3⟩ | exact Or.inl ⟨by omega, rfl⟩
                · refine AW.iload (pc' := 79) dX12_shift_77 rfl ?_
                  refine AW.if_lt (tgt := 109) (pc' := 82) dX12_shift_79 (by first | assumption | omega | (constructor <;> omega) | (simp only [Int.toNat_natCast]; omega) | exact b2_in _) (fun c79 => ?_) (fun c79 => ?_)
                  · refine AW.bipush (pc' := 111) dX12_shift_109 (by decide) ?_
                    refine AW.iret dX12_shift_111 ?_ ?_
                    · refine congrArg (fun z : Int => (some (vI z) : Option AV)) ?_
                      first | (rw [if_pos (by omega)]; done) | (rw [if_neg (by omega), if_pos (by omega)]; done) | (rw [if_neg (by omega), if_neg (by omega), if_pos (by omega)]; done) | (rw [if_neg (by omega), if_neg (by omega), if_neg (by omega), if_pos (by omega)]; done) | (rw [if_neg (by omega), if_neg (by omega), if_neg (by omega), if_neg (by omega)])
                    · first | exact Or.inr ⟨ok, (e2.wd (fun k hk => by simp at hk ⊢; omega)).tr (e3.wd (fun k hk => by simp at hk ⊢; omega)), t3⟩ | exact Or.inl ⟨by omega, rfl⟩
                  · refine AW.iload_n (pc' := 83) dX12_shift_82 rfl ?_
                    refine AW.aload_n (pc' := 84) dX12_shift_83 rfl ?_
                    refine AW.getR (pc' := 87) dX12_shift_84 ly_57 fX12_104 rfl ?_
                    refine AW.iload_n (pc' := 88) dX12_shift_87 rfl ?_
                    first | refine AW.ialdN (pc' := 89) dX12_shift_88 ly_88 (by first | assumption | omega | (constructor <;> omega) | (simp only [Int.toNat_natCast]; omega) | exact b2_in _) (by decide) (fun r88 => ?_) | refine AW.iald (pc' := 89) dX12_shift_88 ly_88 (by first | assumption | omega | (constructor <;> omega) | (simp only [Int.toNat_natCast]; omega) | exact b2_in _) (by first | assumption | omega | (constructor <;> omega) | (simp only [Int.toNat_natCast]; omega) | exact b2_in _) (by decide) (fun r88 => ?_)
                    refine AW.iload (pc' := 91) dX12_shift_89 rfl ?_
                    refine AW.isub (pc' := 92) dX12_shift_91 ?_
                    refine AW.icmp_gt (tgt := 109) (pc' := 95) dX12_shift_92 (by first | assumption | omega | (constructor <;> omega) | (simp only [Int.toNat_natCast]; omega) | exact b2_in _) (by first | assumption | omega | (constructor <;> omega) | (simp only [Int.toNat_natCast]; omega) | exact b2_in _) (fun c92 => ?_) (fun c92 => ?_)
                    · refine AW.bipush (pc' := 111) dX12_shift_109 (by decide) ?_
                      refine AW.iret dX12_shift_111 ?_ ?_
                      · refine congrArg (fun z : Int => (some (vI z) : Option AV)) ?_
                        first | (rw [if_pos (by omega)]; done) | (rw [if_neg (by omega), if_pos (by omega)]; done) | (rw [if_neg (by omega), if_neg (by omega), if_pos (by omega)]; done) | (rw [if_neg (by omega), if_neg (by omega), if_neg (by omega), if_pos (by omega)]; done) | (rw [if_neg (by omega), if_neg (by omega), if_neg (by omega), if_neg (by omega)])
                      · first | exact Or.inr ⟨ok, (e2.wd (fun k hk => by simp at hk ⊢; omega)).tr (e3.wd (fun k hk => by simp at hk ⊢; omega)), t3⟩ | exact Or.inl ⟨by omega, rfl⟩
                    · refine AW.iload (pc' := 97) dX12_shift_95 rfl ?_
                      refine AW.aload_n (pc' := 98) dX12_shift_97 rfl ?_
                      refine AW.getR (pc' := 101) dX12_shift_98 ly_57 fX12_104 rfl ?_
                      refine AW.iload_n (pc' := 102) dX12_shift_101 rfl ?_
                      first | refine AW.ialdN (pc' := 103) dX12_shift_102 ly_88 (by first | assumption | omega | (constructor <;> omega) | (simp only [Int.toNat_natCast]; omega) | exact b2_in _) (by decide) (fun r102 => ?_) | refine AW.iald (pc' := 103) dX12_shift_102 ly_88 (by first | assumption | omega | (constructor <;> omega) | (simp only [Int.toNat_natCast]; omega) | exact b2_in _) (by first | assumption | omega | (constructor <;> omega) | (simp only [Int.toNat_natCast]; omega) | exact b2_in _) (by decide) (fun r102 => ?_)
                      refine AW.iload (pc' := 105) dX12_shift_103 rfl ?_
                      refine AW.isub (pc' := 106) dX12_shift_105 ?_
                      refine AW.icmp_le (tgt := 112) (pc' := 109) dX12_shift_106 (by first | assumption | omega | (constructor <;> omega) | (simp only [Int.toNat_natCast]; omega) | exact b2_in _) (by first | assumption | omega | (constructor <;> omega) | (simp only [Int.toNat_natCast]; omega) | exact b2_in _) (fun c106 => ?_) (fun c106 => ?_)
                      · have ok : ((0 ≤ a ∧ a < 6) ∧ (0 ≤ c ∧ c < 6)) ∧ ¬ (h 86 a.toNat = -2 ∨ h 86 c.toNat = -2) ∧ ¬ (h 86 a.toNat < 0 ∨ h 86 a.toNat ≠ h 86 c.toNat) ∧ ((0 ≤ b ∧ 0 ≤ d ∧ 0 ≤ e) ∧ b ≤ h 88 a.toNat - e ∧ d ≤ h 88 c.toNat - e) := by omega
                        refine AW.iconst (pc' := 113) dX12_shift_112 ?_
                        refine AW.istore6 (pc' := 115) dX12_shift_113 (by decide) rfl ?_
                        refine AW.weak (lp_X12_shift1 (h := h) (a := a) (b := b) (c := c) (d := d) (e := e) (by omega) (by omega) e.toNat 0 h (by omega) EX.rf (fun j hj => absurd hj (Nat.not_lt_zero _)) (fun h2 e2 t2 => ?_)) (by (repeat' first | exact LSub.e | refine LSub.n ?_ | refine LSub.c ?_ ?_) <;> first | rfl | exact congrArg Sum.inl (by first | rfl | omega | omega) | exact congrArg (fun z : Int => (vL z : AV)) (by first | rfl | omega | omega))
                        refine AW.iconst (pc' := 150) dX12_shift_149 ?_
                        refine AW.istore6 (pc' := 152) dX12_shift_150 (by decide) rfl ?_
                        refine AW.weak (lp_X12_shift2 (h := h) (g := h2) (a := a) (b := b) (c := c) (d := d) (e := e) (by omega) (by omega) (e2 89 rfl) t2 e.toNat 0 h2 (by omega) EX.rf (fun j => by unfold cpR; rw [if_neg (by omega), e2 89 rfl]) (fun h3 e3 t3 => ?_)) (by (repeat' first | exact LSub.e | refine LSub.n ?_ | refine LSub.c ?_ ?_) <;> first | rfl | exact congrArg Sum.inl (by first | rfl | omega | omega) | exact congrArg (fun z : Int => (vL z : AV)) (by first | rfl | omega | omega))
                        refine AW.iload (pc' := 189) dX12_shift_187 rfl ?_
                        refine AW.iret dX12_shift_189 ?_ ?_
                        · refine congrArg (fun z : Int => (some (vI z) : Option AV)) ?_
                          first | (rw [if_pos (by omega)]; done) | (rw [if_neg (by omega), if_pos (by omega)]; done) | (rw [if_neg (by omega), if_neg (by omega), if_pos (by omega)]; done) | (rw [if_neg (by omega), if_neg (by omega), if_neg (by omega), if_pos (by omega)]; done) | (rw [if_neg (by omega), if_neg (by omega), if_neg (by omega), if_neg (by omega)])
                        · first | exact Or.inr ⟨ok, (e2.wd (fun k hk => by simp at hk ⊢; omega)).tr (e3.wd (fun k hk => by simp at hk ⊢; omega)), t3⟩ | exact Or.inl ⟨by omega, rfl⟩
                      · refine AW.bipush (pc' := 111) dX12_shift_109 (by decide) ?_
                        refine AW.iret dX12_shift_111 ?_ ?_
                        · refine congrArg (fun z : Int => (some (vI z) : Option AV)) ?_
                          first | (rw [if_pos (by omega)]; done) | (rw [if_neg (by omega), if_pos (by omega)]; done) | (rw [if_neg (by omega), if_neg (by omega), if_pos (by omega)]; done) | (rw [if_neg (by omega), if_neg (by omega), if_neg (by omega), if_pos (by omega)]; done) | (rw [if_neg (by omega), if_neg (by omega), if_neg (by omega), if_neg (by omega)])
                        · first | exact Or.inr ⟨ok, (e2.wd (fun k hk => by simp at hk ⊢; omega)).tr (e3.wd (fun k hk => by simp at hk ⊢; omega)), t3⟩ | exact Or.inl ⟨by omega, rfl⟩
            · refine AW.bipush (pc' := 67) dX12_shift_65 (by decide) ?_
              refine AW.iret dX12_shift_67 ?_ ?_
              · refine congrArg (fun z : Int => (some (vI z) : Option AV)) ?_
                first | (rw [if_pos (by omega)]; done) | (rw [if_neg (by omega), if_pos (by omega)]; done) | (rw [if_neg (by omega), if_neg (by omega), if_pos (by omega)]; done) | (rw [if_neg (by omega), if_neg (by omega), if_neg (by omega), if_pos (by omega)]; done) | (rw [if_neg (by omega), if_neg (by omega), if_neg (by omega), if_neg (by omega)])
              · first | exact Or.inr ⟨ok, (e2.wd (fun k hk => by simp at hk ⊢; omega)).tr (e3.wd (fun k hk => by simp at hk ⊢; omega)), t3⟩ | exact Or.inl ⟨by omega, rfl⟩
        · refine AW.bipush (pc' := 40) dX12_shift_38 (by decide) ?_
          refine AW.iret dX12_shift_40 ?_ ?_
          · refine congrArg (fun z : Int => (some (vI z) : Option AV)) ?_
            first | (rw [if_pos (by omega)]; done) | (rw [if_neg (by omega), if_pos (by omega)]; done) | (rw [if_neg (by omega), if_neg (by omega), if_pos (by omega)]; done) | (rw [if_neg (by omega), if_neg (by omega), if_neg (by omega), if_pos (by omega)]; done) | (rw [if_neg (by omega), if_neg (by omega), if_neg (by omega), if_neg (by omega)])
          · first | exact Or.inr ⟨ok, (e2.wd (fun k hk => by simp at hk ⊢; omega)).tr (e3.wd (fun k hk => by simp at hk ⊢; omega)), t3⟩ | exact Or.inl ⟨by omega, rfl⟩
    · refine AW.iconst (pc' := 15) dX12_shift_14 ?_
      refine AW.iret dX12_shift_15 ?_ ?_
      · refine congrArg (fun z : Int => (some (vI z) : Option AV)) ?_
        first | (rw [if_pos (by omega)]; done) | (rw [if_neg (by omega), if_pos (by omega)]; done) | (rw [if_neg (by omega), if_neg (by omega), if_pos (by omega)]; done) | (rw [if_neg (by omega), if_neg (by omega), if_neg (by omega), if_pos (by omega)]; done) | (rw [if_neg (by omega), if_neg (by omega), if_neg (by omega), if_neg (by omega)])
      · first | exact Or.inr ⟨ok, (e2.wd (fun k hk => by simp at hk ⊢; omega)).tr (e3.wd (fun k hk => by simp at hk ⊢; omega)), t3⟩ | exact Or.inl ⟨by omega, rfl⟩
