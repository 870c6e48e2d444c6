/-! a race, the class -/
theorem IXa.cp {h x : Hp} {a b c d e : Int} (hI : IXa h) (hn : h 12 10 < 120) (C : CP h a b c d e x) (ha : 0 ≤ a ∧ a < h 1 4) (hb : 0 ≤ b ∧ b < h 10 1) (hc : 0 ≤ c ∧ c ≤ 99) (hd : 10 ≤ d ∧ d ≤ 29999) (he : -1 ≤ e ∧ e < h 6 3) : IXa x := by
  obtain ⟨E, C12, C13, C14, C15, C16, C17, -⟩ := C
  have q : ∀ k : Nat, k < 12 → x k = h k := fun k z => E k (by simp; omega)
  obtain ⟨h1, h2, h3, h4⟩ := hI
  have n1 : x 12 10 = h 12 10 + 1 := by rw [C12 10]; simp [upR]
  unfold IXa
  rw [q 1 (by decide), q 2 (by decide), q 3 (by decide), q 4 (by decide), q 5 (by decide), q 6 (by decide), q 7 (by decide), q 8 (by decide), q 9 (by decide), q 10 (by decide), q 11 (by decide), n1]
  refine ⟨h1, h2, h3, ?_⟩
  obtain ⟨p1, p2, p3⟩ := h4
  refine ⟨by omega, by omega, fun r hr => ?_⟩
  rw [C13 r, C14 r, C15 r, C16 r, C17 r]
  unfold upR
  by_cases z : r = (h 12 10).toNat
  · simp only [if_pos z]
    exact ⟨ha.1, ha.2, hb.1, hb.2, hc.1, hc.2, hd.1, hd.2, he.1, he.2⟩
  · simp only [if_neg z]
    exact p3 r (by omega)
theorem PO.ins {n : Int} {ow ye ord : Nat → Int} (hn : 0 ≤ n) (H : PO n ord) {row : Nat → Int} (hr : ∀ j : Nat, row j = insR ow ye ord n j) : PO (n + 1) row := by
  intro j hj
  have p := insQ_le ow ye ord n n.toNat
  rw [hr j]
  unfold insR
  by_cases z : j = insQ ow ye ord n n.toNat
  · rw [if_pos z]; omega
  · rw [if_neg z]
    by_cases y : insQ ow ye ord n n.toNat < j ∧ (j : Int) ≤ n
    · rw [if_pos y]
      have := H (j - 1) (by omega)
      omega
    · rw [if_neg y]
      have := H j (by omega)
      omega
theorem PO.cp {h x : Hp} {a b c d e : Int} (hn : 0 ≤ h 12 10) (C : CP h a b c d e x) (H1 : PO (h 12 10) (h 18)) (H2 : PO (h 12 10) (h 19)) : PO (x 12 10) (x 18) ∧ PO (x 12 10) (x 19) := by
  obtain ⟨E, C12, C13, C14, C15, C16, C17, C18, C19⟩ := C
  have n1 : x 12 10 = h 12 10 + 1 := by rw [C12 10]; simp [upR]
  rw [n1]
  exact ⟨PO.ins hn H1 C18, PO.ins hn H2 C19⟩
def wornX (h : Hp) (law shoe year : Int) (r : Nat) (z : Int) : Int := if (rdX (h (30 + law.toNat)) (h 34 law.toNat) (nvF ((fThen (h 2) (h 3) r year).tdiv 10) (h 4 r) (h 5 r) year (lessF (h 1 4) (h 2) (h 3) r year) (h 1 4) (h 8 shoe.toNat) (h 7 shoe.toNat) (ptF z 100))).1 ≠ 0 then shoe else 0
theorem wornX_or (h : Hp) (law shoe year : Int) (r : Nat) (z : Int) : wornX h law shoe year r z = shoe ∨ wornX h law shoe year r z = 0 := by
  unfold wornX
  split
  · exact Or.inl rfl
  · exact Or.inr rfl
theorem tdiv_10n {a : Int} (h : a < 0) (h2 : -2147483648 ≤ a) : a.tdiv 10 ≤ 0 ∧ -2147483648 ≤ a.tdiv 10 := by
  have y : a.tdiv 10 = -((-a).tdiv 10) := by rw [Int.neg_tdiv, Int.neg_neg]
  have := tdiv_le (a := -a) (b := 10) (by omega) (by decide)
  omega
/-- a runner's minutes, the shoe that is seen -/
def rtX (h : Hp) (law course year shoe day : Int) (r : Nat) (z : Int) : Int := tmF ((fThen (h 2) (h 3) r year * h 11 course.toNat).tdiv 1000) (day + ptF (drF (drF z)) 21 - 10 - h 8 (wornX h law shoe year r (drF z)).toNat)
def rsX2 (h : Hp) (law shoe year : Int) (r : Nat) (z : Int) : Int := if ptF (drF (drF (drF z))) 100 < h 0 10 then wornX h law shoe year r (drF z) else -1
def raceX (g : Hp) (law course year shoe day : Int) : Nat → Nat → Int → Hp → Hp → Prop
  | 0, _, _, h, x => x = h
  | n + 1, r, z, h, x => ∃ h1 h2, WS h h1 ∧ CP h1 r course year (rtX g law course year shoe day r z) (rsX2 g law shoe year r z) h2 ∧ raceX g law course year shoe day n (r + 1) (drF (drF (drF z))) h2 x
abbrev RK : List Nat := [12, 13, 14, 15, 16, 17, 18, 19, 26, 27]
theorem raceX_ex {g : Hp} {law course year shoe day : Int} : ∀ (n r : Nat) (z : Int) (h x : Hp), raceX g law course year shoe day n r z h x → EX RK h x
  | 0, r, z, h, x, e => by
    have e : x = h := e
    subst e
    exact EX.rf
  | n + 1, r, z, h, x, e => by
    obtain ⟨h1, h2, w, c, q⟩ := e
    exact ((w.1.wd (fun k hk => by simp at hk ⊢; omega)).tr (c.1.wd (fun k hk => by simp at hk ⊢; omega))).tr (raceX_ex n _ _ _ _ q)
abbrev rcOK (nl nc ns : Int) (md : Nat → Int) (a b c : Int) : Prop := 0 ≤ a ∧ 0 ≤ b ∧ a.tdiv 10 < nl ∧ (0 ≤ a.tmod 10 ∧ a.tmod 10 < nc) ∧ (0 ≤ b.tdiv 10 ∧ b.tdiv 10 ≤ 99) ∧ (0 ≤ b.tmod 10 ∧ b.tmod 10 < ns) ∧ md (b.tmod 10).toNat ≤ b.tdiv 10 ∧ -50 ≤ c ∧ c ≤ 50
set_option maxRecDepth 100000 in
set_option maxHeartbeats 4000000 in
theorem lp_X11_race {K : KT} {X : XT} {dep : Nat} {h : Hp} {a b day sd law course year shoe : Int} (hI : IXa h) (ql : 0 ≤ law ∧ law < 4) (ql2 : 0 ≤ h 34 law.toNat ∧ h 34 law.toNat ≤ 120) (qc : 0 ≤ course ∧ course < h 10 1) (qy : 0 ≤ year ∧ year ≤ 99) (qs : 0 ≤ shoe ∧ shoe < h 6 3) (qd : -50 ≤ day ∧ day ≤ 50) (hd : 54 ≤ dep) : ∀ (n k : Nat) (z : Int) (h1 : Hp), (k : Int) + n = h 1 4 → EX RK h h1 → IXa h1 → PO (h1 12 10) (h1 18) → PO (h1 12 10) (h1 19) → h1 12 10 + n ≤ 120 → (∀ h2 : Hp, raceX h law course year shoe day n k z h1 h2 → AW K X RX11 cX11_race 14 (some .int) dep 283 [some (vR 0), some (vI (a)), some (vI (b)), some (vI (day)), some (vI (sd)), none, none, none, none, none, none, none, none, none] [] h2) → AW K X RX11 cX11_race 14 (some .int) dep 139 [some (vR 0), some (vI (a)), some (vI (b)), some (vI (day)), some (vI (sd)), some (vI (law)), some (vI (course)), some (vI (year)), some (vI (shoe)), some (vI (z)), some (vI ((k : Int))), none, none, none] [] h1 := by
  have g20 := hI.1.2.1
  have g6 := hI.2.1.2.1
  intro n
  induction n with
  | zero =>
    intro k z h1 hk e1 hI1 hP1 hP2 hn kk
    have w1 := e1 1 rfl
    refine AW.iload (pc' := 141) dX11_race_139 rfl ?_
    refine AW.aload_n (pc' := 142) dX11_race_141 rfl ?_
    refine AW.getR (pc' := 145) dX11_race_142 ly_0 fX11_10 rfl ?_
    refine AW.getI (pc' := 148) dX11_race_145 ly_1 fX11_181 rfl (fun r145 => ?_)
    try simp only [w1] at r145 ⊢
    refine AW.icmp_ge (tgt := 283) (pc' := 151) dX11_race_148 (by first | assumption | omega | (constructor <;> omega) | (simp only [Int.toNat_natCast]; omega) | exact b2_in _) (by first | assumption | omega | (constructor <;> omega) | (simp only [Int.toNat_natCast]; omega) | exact b2_in _) (fun c148 => ?_) (fun c148 => ?_)
    · exact AW.weak (kk h1 rfl) (by (repeat' first | exact LSub.e | refine LSub.n ?_ | refine LSub.c ?_ ?_) <;> first | rfl | exact congrArg Sum.inl (by first | rfl | omega | omega) | exact congrArg (fun z : Int => (vL z : AV)) (by first | rfl | omega | omega))
    · omega
  | succ n ih =>
    intro k z h1 hk e1 hI1 hP1 hP2 hn kk
    have w0 := e1 0 rfl
    have w1 := e1 1 rfl
    have w2 := e1 2 rfl
    have w3 := e1 3 rfl
    have w4 := e1 4 rfl
    have w5 := e1 5 rfl
    have w6 := e1 6 rfl
    have w7 := e1 7 rfl
    have w8 := e1 8 rfl
    have w9 := e1 9 rfl
    have w10 := e1 10 rfl
    have w11 := e1 11 rfl
    have w34 := e1 34 rfl
    have wL := e1 (30 + law.toNat) (by simp; omega)
    have v0 := w0
    have v1 := w1
    have v2 := w2
    have v3 := w3
    have v4 := w4
    have v5 := w5
    have v6 := w6
    have v7 := w7
    have v8 := w8
    have v9 := w9
    have v10 := w10
    have v11 := w11
    have v34 := w34
    have vL := wL
    have hkr : (k : Int) < h 1 4 := by omega
    have g14 : h1 1 4 = h 1 4 := by rw [w1]
    have g63 : h1 6 3 = h 6 3 := by rw [w6]
    have g101 : h1 10 1 = h 10 1 := by rw [w10]
    have q34 : 0 ≤ h1 34 law.toNat ∧ h1 34 law.toNat ≤ 120 := by rw [w34]; exact ql2
    have p1 := ptF_in (drF z) (n := 100) (by decide)
    have p2 := ptF_in (drF (drF z)) (n := 21) (by decide)
    have p3 := ptF_in (drF (drF (drF z))) (n := 100) (by decide)
    have i1 := wr_in (z * 1103515245 + 12345)
    have wo := wornX_or h law shoe year k (drF z)
    have gv := hI.2.1.2.2 (wornX h law shoe year k (drF z)).toNat (by omega)
    have gs := hI.2.1.2.1
    have gc := hI.2.2.1.2.1
    have n0 := hI1.2.2.2.1
    refine AW.iload (pc' := 141) dX11_race_139 rfl ?_
    refine AW.aload_n (pc' := 142) dX11_race_141 rfl ?_
    refine AW.getR (pc' := 145) dX11_race_142 ly_0 fX11_10 rfl ?_
    refine AW.getI (pc' := 148) dX11_race_145 ly_1 fX11_181 rfl (fun r145 => ?_)
    try simp only [w0, w1, w2, w3, w4, w5, w6, w7, w8, w9, w10, w11, w34, wL, v0, v1, v2, v3, v4, v5, v6, v7, v8, v9, v10, v11, v34, vL, Int.toNat_natCast] at r145 ⊢
    refine AW.icmp_ge (tgt := 283) (pc' := 151) dX11_race_148 (by first | assumption | omega | (constructor <;> omega) | (simp only [Int.toNat_natCast]; omega) | exact b2_in _) (by first | assumption | omega | (constructor <;> omega) | (simp only [Int.toNat_natCast]; omega) | exact b2_in _) (fun c148 => ?_) (fun c148 => ?_)
    · omega
    · refine AW.iload (pc' := 153) dX11_race_151 rfl ?_
      refine AW.invS1 (pc' := 156) dX11_race_153 mlX11_182 mX11_drawn (c_X11_drawn2 (dep := dep - 1)) ?_
      try simp only [Int.toNat_natCast, w0, w1, w2, w3, w4, w5, w6, w7, w8, w9, w10, w11, w34, wL, v0, v1, v2, v3, v4, v5, v6, v7, v8, v9, v10, v11, v34, vL, Int.toNat_natCast]
      refine AW.istore9 (pc' := 158) dX11_race_156 (by decide) rfl ?_
      refine AW.aload_n (pc' := 159) dX11_race_158 rfl ?_
      refine AW.iload (pc' := 161) dX11_race_159 rfl ?_
      refine AW.iload (pc' := 163) dX11_race_161 rfl ?_
      refine AW.iload (pc' := 165) dX11_race_163 rfl ?_
      refine AW.iload (pc' := 167) dX11_race_165 rfl ?_
      refine AW.iload (pc' := 169) dX11_race_167 rfl ?_
      refine AW.bipush (pc' := 171) dX11_race_169 (by decide) ?_
      refine AW.invS2 (pc' := 174) dX11_race_171 mlX11_185 mX11_part (c_X11_part (dep := dep - 1) (by first | assumption | omega | (constructor <;> omega) | (simp only [Int.toNat_natCast]; omega) | exact b2_in _)) ?_
      try simp only [Int.toNat_natCast, w0, w1, w2, w3, w4, w5, w6, w7, w8, w9, w10, w11, w34, wL, v0, v1, v2, v3, v4, v5, v6, v7, v8, v9, v10, v11, v34, vL, Int.toNat_natCast]
      refine AW.invQ5 (pc' := 177) dX11_race_174 mlX11_188 mX11_wears ly_0 rfl (c_X11_wears (dep := dep - 1) (by omega) hI1 ql q34 (by omega) qy (by omega) (by constructor <;> omega)) (fun h174 s174 => ?_)
      try simp only [Int.toNat_natCast, w0, w1, w2, w3, w4, w5, w6, w7, w8, w9, w10, w11, w34, wL, v0, v1, v2, v3, v4, v5, v6, v7, v8, v9, v10, v11, v34, vL, Int.toNat_natCast]
      have e2 : EX RK h h174 := e1.tr (s174.1.wd (fun k hk => by simp at hk ⊢; omega))
      have v0 := e2 0 rfl
      have v1 := e2 1 rfl
      have v2 := e2 2 rfl
      have v3 := e2 3 rfl
      have v4 := e2 4 rfl
      have v5 := e2 5 rfl
      have v6 := e2 6 rfl
      have v7 := e2 7 rfl
      have v8 := e2 8 rfl
      have v9 := e2 9 rfl
      have v10 := e2 10 rfl
      have v11 := e2 11 rfl
      have v34 := e2 34 rfl
      have vL := e2 (30 + law.toNat) (by simp; omega)
      have hI2 := hI1.ex s174.1 rfl
      have f14 : h174 1 4 = h 1 4 := by rw [v1]
      have f63 : h174 6 3 = h 6 3 := by rw [v6]
      have f101 : h174 10 1 = h 10 1 := by rw [v10]
      have f12 : h174 12 10 = h1 12 10 := by rw [s174.1 12 rfl]
      have hQ1 : PO (h174 12 10) (h174 18) := by rw [s174.1 12 rfl, s174.1 18 rfl]; exact hP1
      have hQ2 : PO (h174 12 10) (h174 19) := by rw [s174.1 12 rfl, s174.1 19 rfl]; exact hP2
      refine AW.ifb_eq (tgt := 185) (pc' := 180) dX11_race_177 (fun c177 => ?_) (fun c177 => ?_)
      · refine AW.iconst (pc' := 186) dX11_race_185 ?_
        refine AW.top (b := wornX h law shoe year k (drF z)) (by unfold wornX; first | (rw [if_pos c177]; done) | (rw [if_neg c177])) ?_
        refine AW.istore11 (pc' := 188) dX11_race_186 (by decide) rfl ?_
        refine AW.iload (pc' := 190) dX11_race_188 rfl ?_
        refine AW.invS1 (pc' := 193) dX11_race_190 mlX11_182 mX11_drawn (c_X11_drawn2 (dep := dep - 1)) ?_
        try simp only [Int.toNat_natCast, w0, w1, w2, w3, w4, w5, w6, w7, w8, w9, w10, w11, w34, wL, v0, v1, v2, v3, v4, v5, v6, v7, v8, v9, v10, v11, v34, vL, Int.toNat_natCast]
        refine AW.istore9 (pc' := 195) dX11_race_193 (by decide) rfl ?_
        refine AW.iload_n (pc' := 196) dX11_race_195 rfl ?_
        refine AW.iload (pc' := 198) dX11_race_196 rfl ?_
        refine AW.bipush (pc' := 200) dX11_race_198 (by decide) ?_
        refine AW.invS2 (pc' := 203) dX11_race_200 mlX11_185 mX11_part (c_X11_part (dep := dep - 1) (by first | assumption | omega | (constructor <;> omega) | (simp only [Int.toNat_natCast]; omega) | exact b2_in _)) ?_
        try simp only [Int.toNat_natCast, w0, w1, w2, w3, w4, w5, w6, w7, w8, w9, w10, w11, w34, wL, v0, v1, v2, v3, v4, v5, v6, v7, v8, v9, v10, v11, v34, vL, Int.toNat_natCast]
        refine AW.iadd (pc' := 204) dX11_race_203 ?_
        refine AW.bipush (pc' := 206) dX11_race_204 (by decide) ?_
        refine AW.isub (pc' := 207) dX11_race_206 ?_
        refine AW.aload_n (pc' := 208) dX11_race_207 rfl ?_
        refine AW.getR (pc' := 211) dX11_race_208 ly_0 fX11_19 rfl ?_
        refine AW.getR (pc' := 214) dX11_race_211 ly_6 fX11_191 rfl ?_
        refine AW.iload (pc' := 216) dX11_race_214 rfl ?_
        first | refine AW.ialdN (pc' := 217) dX11_race_216 ly_8 (by first | assumption | omega | (constructor <;> omega) | (simp only [Int.toNat_natCast]; omega) | exact b2_in _) (by decide) (fun r216 => ?_) | refine AW.iald (pc' := 217) dX11_race_216 ly_8 (by first | assumption | omega | (constructor <;> omega) | (simp only [Int.toNat_natCast]; omega) | exact b2_in _) (by first | assumption | omega | (constructor <;> omega) | (simp only [Int.toNat_natCast]; omega) | exact b2_in _) (by decide) (fun r216 => ?_)
        try simp only [w0, w1, w2, w3, w4, w5, w6, w7, w8, w9, w10, w11, w34, wL, v0, v1, v2, v3, v4, v5, v6, v7, v8, v9, v10, v11, v34, vL, Int.toNat_natCast] at r216 ⊢
        refine AW.isub (pc' := 218) dX11_race_217 ?_
        skip
        refine AW.istore12 (pc' := 220) dX11_race_218 (by decide) rfl ?_
        refine AW.aload_n (pc' := 221) dX11_race_220 rfl ?_
        refine AW.iload (pc' := 223) dX11_race_221 rfl ?_
        refine AW.iload (pc' := 225) dX11_race_223 rfl ?_
        refine AW.iload (pc' := 227) dX11_race_225 rfl ?_
        refine AW.iload (pc' := 229) dX11_race_227 rfl ?_
        refine AW.invV4 (pc' := 232) dX11_race_229 mlX11_194 mX11_timeOf ly_0 rfl (c_X11_timeOf (dep := dep - 1) (by omega) hI2 (by omega) (by omega) qy (by omega)) ?_
        try simp only [Int.toNat_natCast, w0, w1, w2, w3, w4, w5, w6, w7, w8, w9, w10, w11, w34, wL, v0, v1, v2, v3, v4, v5, v6, v7, v8, v9, v10, v11, v34, vL, Int.toNat_natCast]
        rw [show tmF ((fThen (h 2) (h 3) k year * h 11 course.toNat).tdiv 1000) (day + ptF (drF (drF z)) 21 - 10 - h 8 (wornX h law shoe year k (drF z)).toNat) = rtX h law course year shoe day k z from rfl]
        have rt : 10 ≤ rtX h law course year shoe day k z ∧ rtX h law course year shoe day k z ≤ 29999 := tmF_in _ _
        refine AW.istore13 (pc' := 234) dX11_race_232 (by decide) rfl ?_
        refine AW.iload (pc' := 236) dX11_race_234 rfl ?_
        refine AW.invS1 (pc' := 239) dX11_race_236 mlX11_182 mX11_drawn (c_X11_drawn2 (dep := dep - 1)) ?_
        try simp only [Int.toNat_natCast, w0, w1, w2, w3, w4, w5, w6, w7, w8, w9, w10, w11, w34, wL, v0, v1, v2, v3, v4, v5, v6, v7, v8, v9, v10, v11, v34, vL, Int.toNat_natCast]
        refine AW.istore9 (pc' := 241) dX11_race_239 (by decide) rfl ?_
        refine AW.aload_n (pc' := 242) dX11_race_241 rfl ?_
        refine AW.getR (pc' := 245) dX11_race_242 ly_0 fX11_35 rfl ?_
        refine AW.iload (pc' := 247) dX11_race_245 rfl ?_
        refine AW.iload (pc' := 249) dX11_race_247 rfl ?_
        refine AW.iload (pc' := 251) dX11_race_249 rfl ?_
        refine AW.iload (pc' := 253) dX11_race_251 rfl ?_
        refine AW.iload (pc' := 255) dX11_race_253 rfl ?_
        refine AW.bipush (pc' := 257) dX11_race_255 (by decide) ?_
        refine AW.invS2 (pc' := 260) dX11_race_257 mlX11_185 mX11_part (c_X11_part (dep := dep - 1) (by first | assumption | omega | (constructor <;> omega) | (simp only [Int.toNat_natCast]; omega) | exact b2_in _)) ?_
        try simp only [Int.toNat_natCast, w0, w1, w2, w3, w4, w5, w6, w7, w8, w9, w10, w11, w34, wL, v0, v1, v2, v3, v4, v5, v6, v7, v8, v9, v10, v11, v34, vL, Int.toNat_natCast]
        refine AW.aload_n (pc' := 261) dX11_race_260 rfl ?_
        refine AW.getI (pc' := 264) dX11_race_261 ly_0 fX11_85 rfl (fun r261 => ?_)
        try simp only [w0, w1, w2, w3, w4, w5, w6, w7, w8, w9, w10, w11, w34, wL, v0, v1, v2, v3, v4, v5, v6, v7, v8, v9, v10, v11, v34, vL, Int.toNat_natCast] at r261 ⊢
        refine AW.icmp_ge (tgt := 272) (pc' := 267) dX11_race_264 (by first | assumption | omega | (constructor <;> omega) | (simp only [Int.toNat_natCast]; omega) | exact b2_in _) (by first | assumption | omega | (constructor <;> omega) | (simp only [Int.toNat_natCast]; omega) | exact b2_in _) (fun c264 => ?_) (fun c264 => ?_)
        · refine AW.iconst (pc' := 273) dX11_race_272 ?_
          refine AW.top (b := rsX2 h law shoe year k z) (by unfold rsX2; first | (rw [if_pos (by omega)]; done) | (rw [if_neg (by omega)])) ?_
          have rs : -1 ≤ rsX2 h law shoe year k z ∧ rsX2 h law shoe year k z < h 6 3 := by unfold rsX2; split <;> omega
          refine AW.invQ5 (pc' := 276) dX11_race_273 mlX11_108 mX7_come ly_12 rfl (c_X7_come (dep := dep - 1) (by omega) (by omega) hQ1 hQ2 (by constructor <;> omega) (by constructor <;> omega) (by constructor <;> omega) (by constructor <;> omega) (by constructor <;> omega)) (fun h273 s273 => ?_)
          try simp only [Int.toNat_natCast, w0, w1, w2, w3, w4, w5, w6, w7, w8, w9, w10, w11, w34, wL, v0, v1, v2, v3, v4, v5, v6, v7, v8, v9, v10, v11, v34, vL, Int.toNat_natCast]
          refine AW.pop (pc' := 277) dX11_race_276 rfl ?_
          refine AW.iinc10 (pc' := 280) dX11_race_277 (by decide) rfl ?_
          refine AW.goto (tgt := 139) dX11_race_280 ?_
          have hI3 := hI2.cp (by omega) s273 (by omega) (by omega) qy rt (by omega)
          have hp := PO.cp (by omega) s273 hQ1 hQ2
          have n3 : h273 12 10 = h174 12 10 + 1 := by rw [s273.2.1 10]; simp [upR]
          exact AW.weak (ih (k + 1) (drF (drF (drF z))) h273 (by omega) (e2.tr (s273.1.wd (fun k hk => by simp at hk ⊢; omega))) hI3 hp.1 hp.2 (by omega) (fun x hx => kk x ⟨h174, h273, s174, s273, hx⟩)) (by (repeat' first | exact LSub.e | refine LSub.n ?_ | refine LSub.c ?_ ?_) <;> first | rfl | exact congrArg Sum.inl (by first | rfl | omega | (push_cast; omega)) | exact congrArg (fun z : Int => (vL z : AV)) (by first | rfl | omega | (push_cast; omega)))
        · refine AW.iload (pc' := 269) dX11_race_267 rfl ?_
          refine AW.goto (tgt := 273) dX11_race_269 ?_
          refine AW.top (b := rsX2 h law shoe year k z) (by unfold rsX2; first | (rw [if_pos (by omega)]; done) | (rw [if_neg (by omega)])) ?_
          have rs : -1 ≤ rsX2 h law shoe year k z ∧ rsX2 h law shoe year k z < h 6 3 := by unfold rsX2; split <;> omega
          refine AW.invQ5 (pc' := 276) dX11_race_273 mlX11_108 mX7_come ly_12 rfl (c_X7_come (dep := dep - 1) (by omega) (by omega) hQ1 hQ2 (by constructor <;> omega) (by constructor <;> omega) (by constructor <;> omega) (by constructor <;> omega) (by constructor <;> omega)) (fun h273 s273 => ?_)
          try simp only [Int.toNat_natCast, w0, w1, w2, w3, w4, w5, w6, w7, w8, w9, w10, w11, w34, wL, v0, v1, v2, v3, v4, v5, v6, v7, v8, v9, v10, v11, v34, vL, Int.toNat_natCast]
          refine AW.pop (pc' := 277) dX11_race_276 rfl ?_
          refine AW.iinc10 (pc' := 280) dX11_race_277 (by decide) rfl ?_
          refine AW.goto (tgt := 139) dX11_race_280 ?_
          have hI3 := hI2.cp (by omega) s273 (by omega) (by omega) qy rt (by omega)
          have hp := PO.cp (by omega) s273 hQ1 hQ2
          have n3 : h273 12 10 = h174 12 10 + 1 := by rw [s273.2.1 10]; simp [upR]
          exact AW.weak (ih (k + 1) (drF (drF (drF z))) h273 (by omega) (e2.tr (s273.1.wd (fun k hk => by simp at hk ⊢; omega))) hI3 hp.1 hp.2 (by omega) (fun x hx => kk x ⟨h174, h273, s174, s273, hx⟩)) (by (repeat' first | exact LSub.e | refine LSub.n ?_ | refine LSub.c ?_ ?_) <;> first | rfl | exact congrArg Sum.inl (by first | rfl | omega | (push_cast; omega)) | exact congrArg (fun z : Int => (vL z : AV)) (by first | rfl | omega | (push_cast; omega)))
      · refine AW.iload (pc' := 182) dX11_race_180 rfl ?_
        refine AW.goto (tgt := 186) dX11_race_182 ?_
        refine AW.top (b := wornX h law shoe year k (drF z)) (by unfold wornX; first | (rw [if_pos c177]; done) | (rw [if_neg c177])) ?_
        refine AW.istore11 (pc' := 188) dX11_race_186 (by decide) rfl ?_
        refine AW.iload (pc' := 190) dX11_race_188 rfl ?_
        refine AW.invS1 (pc' := 193) dX11_race_190 mlX11_182 mX11_drawn (c_X11_drawn2 (dep := dep - 1)) ?_
        try simp only [Int.toNat_natCast, w0, w1, w2, w3, w4, w5, w6, w7, w8, w9, w10, w11, w34, wL, v0, v1, v2, v3, v4, v5, v6, v7, v8, v9, v10, v11, v34, vL, Int.toNat_natCast]
        refine AW.istore9 (pc' := 195) dX11_race_193 (by decide) rfl ?_
        refine AW.iload_n (pc' := 196) dX11_race_195 rfl ?_
        refine AW.iload (pc' := 198) dX11_race_196 rfl ?_
        refine AW.bipush (pc' := 200) dX11_race_198 (by decide) ?_
        refine AW.invS2 (pc' := 203) dX11_race_200 mlX11_185 mX11_part (c_X11_part (dep := dep - 1) (by first | assumption | omega | (constructor <;> omega) | (simp only [Int.toNat_natCast]; omega) | exact b2_in _)) ?_
        try simp only [Int.toNat_natCast, w0, w1, w2, w3, w4, w5, w6, w7, w8, w9, w10, w11, w34, wL, v0, v1, v2, v3, v4, v5, v6, v7, v8, v9, v10, v11, v34, vL, Int.toNat_natCast]
        refine AW.iadd (pc' := 204) dX11_race_203 ?_
        refine AW.bipush (pc' := 206) dX11_race_204 (by decide) ?_
        refine AW.isub (pc' := 207) dX11_race_206 ?_
        refine AW.aload_n (pc' := 208) dX11_race_207 rfl ?_
        refine AW.getR (pc' := 211) dX11_race_208 ly_0 fX11_19 rfl ?_
        refine AW.getR (pc' := 214) dX11_race_211 ly_6 fX11_191 rfl ?_
        refine AW.iload (pc' := 216) dX11_race_214 rfl ?_
        first | refine AW.ialdN (pc' := 217) dX11_race_216 ly_8 (by first | assumption | omega | (constructor <;> omega) | (simp only [Int.toNat_natCast]; omega) | exact b2_in _) (by decide) (fun r216 => ?_) | refine AW.iald (pc' := 217) dX11_race_216 ly_8 (by first | assumption | omega | (constructor <;> omega) | (simp only [Int.toNat_natCast]; omega) | exact b2_in _) (by first | assumption | omega | (constructor <;> omega) | (simp only [Int.toNat_natCast]; omega) | exact b2_in _) (by decide) (fun r216 => ?_)
        try simp only [w0, w1, w2, w3, w4, w5, w6, w7, w8, w9, w10, w11, w34, wL, v0, v1, v2, v3, v4, v5, v6, v7, v8, v9, v10, v11, v34, vL, Int.toNat_natCast] at r216 ⊢
        refine AW.isub (pc' := 218) dX11_race_217 ?_
        skip
        refine AW.istore12 (pc' := 220) dX11_race_218 (by decide) rfl ?_
        refine AW.aload_n (pc' := 221) dX11_race_220 rfl ?_
        refine AW.iload (pc' := 223) dX11_race_221 rfl ?_
        refine AW.iload (pc' := 225) dX11_race_223 rfl ?_
        refine AW.iload (pc' := 227) dX11_race_225 rfl ?_
        refine AW.iload (pc' := 229) dX11_race_227 rfl ?_
        refine AW.invV4 (pc' := 232) dX11_race_229 mlX11_194 mX11_timeOf ly_0 rfl (c_X11_timeOf (dep := dep - 1) (by omega) hI2 (by omega) (by omega) qy (by omega)) ?_
        try simp only [Int.toNat_natCast, w0, w1, w2, w3, w4, w5, w6, w7, w8, w9, w10, w11, w34, wL, v0, v1, v2, v3, v4, v5, v6, v7, v8, v9, v10, v11, v34, vL, Int.toNat_natCast]
        rw [show tmF ((fThen (h 2) (h 3) k year * h 11 course.toNat).tdiv 1000) (day + ptF (drF (drF z)) 21 - 10 - h 8 (wornX h law shoe year k (drF z)).toNat) = rtX h law course year shoe day k z from rfl]
        have rt : 10 ≤ rtX h law course year shoe day k z ∧ rtX h law course year shoe day k z ≤ 29999 := tmF_in _ _
        refine AW.istore13 (pc' := 234) dX11_race_232 (by decide) rfl ?_
        refine AW.iload (pc' := 236) dX11_race_234 rfl ?_
        refine AW.invS1 (pc' := 239) dX11_race_236 mlX11_182 mX11_drawn (c_X11_drawn2 (dep := dep - 1)) ?_
        try simp only [Int.toNat_natCast, w0, w1, w2, w3, w4, w5, w6, w7, w8, w9, w10, w11, w34, wL, v0, v1, v2, v3, v4, v5, v6, v7, v8, v9, v10, v11, v34, vL, Int.toNat_natCast]
        refine AW.istore9 (pc' := 241) dX11_race_239 (by decide) rfl ?_
        refine AW.aload_n (pc' := 242) dX11_race_241 rfl ?_
        refine AW.getR (pc' := 245) dX11_race_242 ly_0 fX11_35 rfl ?_
        refine AW.iload (pc' := 247) dX11_race_245 rfl ?_
        refine AW.iload (pc' := 249) dX11_race_247 rfl ?_
        refine AW.iload (pc' := 251) dX11_race_249 rfl ?_
        refine AW.iload (pc' := 253) dX11_race_251 rfl ?_
        refine AW.iload (pc' := 255) dX11_race_253 rfl ?_
        refine AW.bipush (pc' := 257) dX11_race_255 (by decide) ?_
        refine AW.invS2 (pc' := 260) dX11_race_257 mlX11_185 mX11_part (c_X11_part (dep := dep - 1) (by first | assumption | omega | (constructor <;> omega) | (simp only [Int.toNat_natCast]; omega) | exact b2_in _)) ?_
        try simp only [Int.toNat_natCast, w0, w1, w2, w3, w4, w5, w6, w7, w8, w9, w10, w11, w34, wL, v0, v1, v2, v3, v4, v5, v6, v7, v8, v9, v10, v11, v34, vL, Int.toNat_natCast]
        refine AW.aload_n (pc' := 261) dX11_race_260 rfl ?_
        refine AW.getI (pc' := 264) dX11_race_261 ly_0 fX11_85 rfl (fun r261 => ?_)
        try simp only [w0, w1, w2, w3, w4, w5, w6, w7, w8, w9, w10, w11, w34, wL, v0, v1, v2, v3, v4, v5, v6, v7, v8, v9, v10, v11, v34, vL, Int.toNat_natCast] at r261 ⊢
        refine AW.icmp_ge (tgt := 272) (pc' := 267) dX11_race_264 (by first | assumption | omega | (constructor <;> omega) | (simp only [Int.toNat_natCast]; omega) | exact b2_in _) (by first | assumption | omega | (constructor <;> omega) | (simp only [Int.toNat_natCast]; omega) | exact b2_in _) (fun c264 => ?_) (fun c264 => ?_)
        · refine AW.iconst (pc' := 273) dX11_race_272 ?_
          refine AW.top (b := rsX2 h law shoe year k z) (by unfold rsX2; first | (rw [if_pos (by omega)]; done) | (rw [if_neg (by omega)])) ?_
          have rs : -1 ≤ rsX2 h law shoe year k z ∧ rsX2 h law shoe year k z < h 6 3 := by unfold rsX2; split <;> omega
          refine AW.invQ5 (pc' := 276) dX11_race_273 mlX11_108 mX7_come ly_12 rfl (c_X7_come (dep := dep - 1) (by omega) (by omega) hQ1 hQ2 (by constructor <;> omega) (by constructor <;> omega) (by constructor <;> omega) (by constructor <;> omega) (by constructor <;> omega)) (fun h273 s273 => ?_)
          try simp only [Int.toNat_natCast, w0, w1, w2, w3, w4, w5, w6, w7, w8, w9, w10, w11, w34, wL, v0, v1, v2, v3, v4, v5, v6, v7, v8, v9, v10, v11, v34, vL, Int.toNat_natCast]
          refine AW.pop (pc' := 277) dX11_race_276 rfl ?_
          refine AW.iinc10 (pc' := 280) dX11_race_277 (by decide) rfl ?_
          refine AW.goto (tgt := 139) dX11_race_280 ?_
          have hI3 := hI2.cp (by omega) s273 (by omega) (by omega) qy rt (by omega)
          have hp := PO.cp (by omega) s273 hQ1 hQ2
          have n3 : h273 12 10 = h174 12 10 + 1 := by rw [s273.2.1 10]; simp [upR]
          exact AW.weak (ih (k + 1) (drF (drF (drF z))) h273 (by omega) (e2.tr (s273.1.wd (fun k hk => by simp at hk ⊢; omega))) hI3 hp.1 hp.2 (by omega) (fun x hx => kk x ⟨h174, h273, s174, s273, hx⟩)) (by (repeat' first | exact LSub.e | refine LSub.n ?_ | refine LSub.c ?_ ?_) <;> first | rfl | exact congrArg Sum.inl (by first | rfl | omega | (push_cast; omega)) | exact congrArg (fun z : Int => (vL z : AV)) (by first | rfl | omega | (push_cast; omega)))
        · refine AW.iload (pc' := 269) dX11_race_267 rfl ?_
          refine AW.goto (tgt := 273) dX11_race_269 ?_
          refine AW.top (b := rsX2 h law shoe year k z) (by unfold rsX2; first | (rw [if_pos (by omega)]; done) | (rw [if_neg (by omega)])) ?_
          have rs : -1 ≤ rsX2 h law shoe year k z ∧ rsX2 h law shoe year k z < h 6 3 := by unfold rsX2; split <;> omega
          refine AW.invQ5 (pc' := 276) dX11_race_273 mlX11_108 mX7_come ly_12 rfl (c_X7_come (dep := dep - 1) (by omega) (by omega) hQ1 hQ2 (by constructor <;> omega) (by constructor <;> omega) (by constructor <;> omega) (by constructor <;> omega) (by constructor <;> omega)) (fun h273 s273 => ?_)
          try simp only [Int.toNat_natCast, w0, w1, w2, w3, w4, w5, w6, w7, w8, w9, w10, w11, w34, wL, v0, v1, v2, v3, v4, v5, v6, v7, v8, v9, v10, v11, v34, vL, Int.toNat_natCast]
          refine AW.pop (pc' := 277) dX11_race_276 rfl ?_
          refine AW.iinc10 (pc' := 280) dX11_race_277 (by decide) rfl ?_
          refine AW.goto (tgt := 139) dX11_race_280 ?_
          have hI3 := hI2.cp (by omega) s273 (by omega) (by omega) qy rt (by omega)
          have hp := PO.cp (by omega) s273 hQ1 hQ2
          have n3 : h273 12 10 = h174 12 10 + 1 := by rw [s273.2.1 10]; simp [upR]
          exact AW.weak (ih (k + 1) (drF (drF (drF z))) h273 (by omega) (e2.tr (s273.1.wd (fun k hk => by simp at hk ⊢; omega))) hI3 hp.1 hp.2 (by omega) (fun x hx => kk x ⟨h174, h273, s174, s273, hx⟩)) (by (repeat' first | exact LSub.e | refine LSub.n ?_ | refine LSub.c ?_ ?_) <;> first | rfl | exact congrArg Sum.inl (by first | rfl | omega | (push_cast; omega)) | exact congrArg (fun z : Int => (vL z : AV)) (by first | rfl | omega | (push_cast; omega)))
