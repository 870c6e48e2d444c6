set_option maxRecDepth 100000 in
set_option maxHeartbeats 4000000 in
theorem lp_X12_race {K : KT} {X : XT} {dep : Nat} {g : Hp} {a b day sd law course year shoe : Int} (hI : IMa g) (ea : a.tdiv 10 = law) (ec : a.tmod 10 = course) (es : b.tmod 10 = shoe) (ia : inI a ∧ inI b) (ql : 0 ≤ law ∧ law < 4) (ok : okL g law) (qc : 0 ≤ course ∧ course < g 57 15) (qy : 0 ≤ year ∧ year ≤ 99) (qs : 0 ≤ shoe ∧ shoe < g 57 14) (qd : -50 ≤ day ∧ day ≤ 50) (hd : 5 ≤ dep) : ∀ (n k : Nat) (z : Int) (h1 : Hp), (k : Int) + n = g 57 13 → EP mrc g h1 → IMa h1 → h1 57 16 + n ≤ 120 → (∀ h2 : Hp, raceM g law course year shoe day n k z h1 h2 → AW K X RX12 cX12_race 11 (some .int) dep 317 [some (vR 57), some (vI (a)), some (vI (b)), some (vI (day)), some (vI (sd)), none, none, none, none, none, none] [] h2) → AW K X RX12 cX12_race 11 (some .int) dep 109 [some (vR 57), some (vI (a)), some (vI (b)), some (vI (day)), some (vI (sd)), some (vI (year)), some (vI (z)), some (vI ((k : Int))), none, none, none] [] h1 := by
  intro n
  induction n with
  | zero =>
    intro k z h1 hk e1 hI1 hn kk
    have w13 : h1 57 13 = g 57 13 := e1 57 13 rfl
    refine AW.iload (pc' := 111) dX12_race_109 rfl ?_
    refine AW.aload_n (pc' := 112) dX12_race_111 rfl ?_
    refine AW.getI (pc' := 115) dX12_race_112 ly_57 fX12_122 rfl (fun r112 => ?_)
    try simp only [w13] at r112 ⊢
    refine AW.icmp_ge (tgt := 317) (pc' := 118) dX12_race_115 (by first | assumption | omega | (constructor <;> omega) | (simp only [Int.toNat_natCast]; omega) | exact b2_in _) (by first | assumption | omega | (constructor <;> omega) | (simp only [Int.toNat_natCast]; omega) | exact b2_in _) (fun c115 => ?_) (fun c115 => ?_)
    · exact AW.weak (kk h1 rfl) (by (repeat' first | exact LSub.e | refine LSub.n ?_ | refine LSub.c ?_ ?_) <;> first | rfl | exact congrArg Sum.inl (by first | rfl | omega | omega) | exact congrArg (fun z : Int => (vL z : AV)) (by first | rfl | omega | omega))
    · omega
  | succ n ih =>
    intro k z h1 hk e1 hI1 hn kk
    have w58 := e1.row 58 (fun _ => rfl)
    have w59 := e1.row 59 (fun _ => rfl)
    have w63 := e1.row 63 (fun _ => rfl)
    have w65 := e1.row 65 (fun _ => rfl)
    have w13 : h1 57 13 = g 57 13 := e1 57 13 rfl
    have w14 : h1 57 14 = g 57 14 := e1 57 14 rfl
    have w15 : h1 57 15 = g 57 15 := e1 57 15 rfl
    have w17 : h1 57 17 = g 57 17 := e1 57 17 rfl
    have v58 := w58
    have v59 := w59
    have v63 := w63
    have v65 := w65
    have v13 := w13
    have v14 := w14
    have v15 := w15
    have v17 := w17
    have hkr : (k : Int) < g 57 13 := by omega
    have g20 := hI.1.2.1
    have p1 := ptF_in (drF z) (n := 100) (by decide)
    have p2 := ptF_in (drF (drF z)) (n := 21) (by decide)
    have p3 := ptF_in (drF (drF (drF z))) (n := 100) (by decide)
    have i1 := wr_in (z * 1103515245 + 12345)
    have wo := wornM_or g law shoe year k (drF z)
    have gs := hI.2.1.2.1
    have gc := hI.2.2.1.2.1
    have gv := hI.2.1.2.2 (wornM g law shoe year k (drF z)).toNat (by omega)
    have n0 := hI1.2.2.2.1
    obtain ⟨-, -, f1, f2⟩ := fThen_in hI.1 (r := k) hkr qy.1 qy.2
    have hb := hI.2.2.1.2.2 course.toNat (by omega)
    have m1 := mul_in (a := fThen (g 58) (g 59) k year) (b := g 65 course.toNat) (A := 14949) (B := 2000) (by omega) (by omega) (by omega) (by omega) (by omega)
    have m0 : 0 ≤ fThen (g 58) (g 59) k year * g 65 course.toNat := Int.mul_nonneg (by omega) (by omega)
    have d2 := tdiv_le (a := fThen (g 58) (g 59) k year * g 65 course.toNat) (b := 1000) m0 (by decide)
    have d3 : (fThen (g 58) (g 59) k year * g 65 course.toNat).tdiv 1000 ≤ 29898 := by rw [Int.tdiv_eq_ediv_of_nonneg m0]; omega
    have m2 := mul_in (a := (fThen (g 58) (g 59) k year * g 65 course.toNat).tdiv 1000) (b := 1000 + day + (ptF (drF (drF z)) 21 - 10) - g 63 (wornM g law shoe year k (drF z)).toNat) (A := 29898) (B := 1500) (by omega) (by omega) (by omega) (by omega) (by omega)
    have d4 := tdiv_abs (a := (fThen (g 58) (g 59) k year * g 65 course.toNat).tdiv 1000 * (1000 + day + (ptF (drF (drF z)) 21 - 10) - g 63 (wornM g law shoe year k (drF z)).toNat)) (b := 1000) (B := 44847000) (by decide) (by omega) (by omega)
    have e76 := e1.row 76 (fun _ => rfl)
    have e77 := e1.row 77 (fun _ => rfl)
    have tl := tokL_ep e1 law
    have tll := tokL_len g law
    obtain ⟨k1, k2, k3, k4, k5⟩ := ok
    refine AW.iload (pc' := 111) dX12_race_109 rfl ?_
    refine AW.aload_n (pc' := 112) dX12_race_111 rfl ?_
    refine AW.getI (pc' := 115) dX12_race_112 ly_57 fX12_122 rfl (fun r112 => ?_)
    try simp only [w58, w59, w63, w65, w13, w14, w15, w17, v58, v59, v63, v65, v13, v14, v15, v17, Int.toNat_natCast, ea, ec, es] at r112 ⊢
    refine AW.icmp_ge (tgt := 317) (pc' := 118) dX12_race_115 (by first | assumption | omega | (constructor <;> omega) | (simp only [Int.toNat_natCast]; omega) | exact b2_in _) (by first | assumption | omega | (constructor <;> omega) | (simp only [Int.toNat_natCast]; omega) | exact b2_in _) (fun c115 => ?_) (fun c115 => ?_)
    · omega
    · refine AW.iload (pc' := 120) dX12_race_118 rfl ?_
      refine AW.ldc (v := 1103515245) (pc' := 122) dX12_race_120 kX12_252 ?_
      refine AW.imul (pc' := 123) dX12_race_122 ?_
      refine AW.sipush (pc' := 126) dX12_race_123 (by decide) ?_
      refine AW.iadd (pc' := 127) dX12_race_126 ?_
      refine AW.cong (b := drF z) (wr_of _) ?_
      refine AW.istore6 (pc' := 129) dX12_race_127 (by decide) rfl ?_
      refine AW.aload_n (pc' := 130) dX12_race_129 rfl ?_
      refine AW.iload_n (pc' := 131) dX12_race_130 rfl ?_
      refine AW.bipush (pc' := 133) dX12_race_131 (by decide) ?_
      refine AW.idiv (pc' := 134) dX12_race_133 (by first | assumption | omega | (constructor <;> omega) | (simp only [Int.toNat_natCast]; omega) | exact b2_in _) (by first | assumption | omega | (constructor <;> omega) | (simp only [Int.toNat_natCast]; omega) | exact b2_in _) (by first | assumption | omega | (constructor <;> omega) | (simp only [Int.toNat_natCast]; omega) | exact b2_in _) ?_
      simp only [ea]
      refine AW.iload (pc' := 136) dX12_race_134 rfl ?_
      refine AW.iload (pc' := 138) dX12_race_136 rfl ?_
      refine AW.iload_n (pc' := 139) dX12_race_138 rfl ?_
      refine AW.bipush (pc' := 141) dX12_race_139 (by decide) ?_
      refine AW.irem (pc' := 142) dX12_race_141 (by first | assumption | omega | (constructor <;> omega) | (simp only [Int.toNat_natCast]; omega) | exact b2_in _) (by first | assumption | omega | (constructor <;> omega) | (simp only [Int.toNat_natCast]; omega) | exact b2_in _) (by first | assumption | omega | (constructor <;> omega) | (simp only [Int.toNat_natCast]; omega) | exact b2_in _) ?_
      simp only [es]
      refine AW.iload (pc' := 144) dX12_race_142 rfl ?_
      refine AW.bipush (pc' := 146) dX12_race_144 (by decide) ?_
      refine AW.iushr (pc' := 147) dX12_race_146 ?_
      rw [show ((Int32.ofInt (drF z)).toUInt32 >>> ((Int32.ofInt 8).toUInt32 &&& Int32.toUInt32 31)).toInt32.toInt = us8 (drF z) from rfl]
      have ui5 : inI (us8 (drF z)) := in32 _
      refine AW.bipush (pc' := 149) dX12_race_147 (by decide) ?_
      refine AW.irem (pc' := 150) dX12_race_149 (by first | assumption | omega | (constructor <;> omega) | (simp only [Int.toNat_natCast]; omega) | exact b2_in _) (by first | assumption | omega | (constructor <;> omega) | (simp only [Int.toNat_natCast]; omega) | exact b2_in _) (by first | assumption | omega | (constructor <;> omega) | (simp only [Int.toNat_natCast]; omega) | exact b2_in _) ?_
      rw [show (us8 (drF z)).tmod 100 = ptF (drF z) 100 from rfl]
      refine AW.invQ5 (pc' := 153) dX12_race_150 mlX12_253 mX12_workedOut ly_57 rfl (c_X12_workedOut (L := tokL g law) (dep := dep - 1) (by omega) hI1 ql (by omega) qy (by omega) (by constructor <;> omega) (by rw [e77]; exact k1) (by rw [e77]; omega) (by rw [e77]; exact k3) (fun i hi => by rw [e76, e77]; exact tokL_get g law i hi) k4 k5) (fun h150 s150 => ?_)
      try simp only [Int.toNat_natCast, w58, w59, w63, w65, w13, w14, w15, w17, v58, v59, v63, v65, v13, v14, v15, v17, Int.toNat_natCast, ea, ec, es]
      obtain ⟨s150, evi⟩ := s150
      try simp only [Int.toNat_natCast] at evi
      rw [nmF_ep e1] at evi ⊢
      have e2 : EP mrc g h150 := e1.tr s150.toR
      have hI2 := hI1.ep s150
      have v58 := e2.row 58 (fun _ => rfl)
      have v59 := e2.row 59 (fun _ => rfl)
      have v63 := e2.row 63 (fun _ => rfl)
      have v65 := e2.row 65 (fun _ => rfl)
      have v13 : h150 57 13 = g 57 13 := e2 57 13 rfl
      have v14 : h150 57 14 = g 57 14 := e2 57 14 rfl
      have v15 : h150 57 15 = g 57 15 := e2 57 15 rfl
      have v17 : h150 57 17 = g 57 17 := e2 57 17 rfl
      have v16 : h150 57 16 = h1 57 16 := s150 57 16 rfl
      generalize hev : evF (nmF g k year shoe.toNat (ptF (drF z) 100)) (tokL g law) [] true = ev at evi ⊢
      refine AW.if_eq (tgt := 163) (pc' := 156) dX12_race_153 (by first | assumption | omega | (constructor <;> omega) | (simp only [Int.toNat_natCast]; omega) | exact b2_in _) (fun c153 => ?_) (fun c153 => ?_)
      · refine AW.iconst (pc' := 164) dX12_race_163 ?_
        refine AW.top (b := wornM g law shoe year k (drF z)) (by unfold wornM; rw [hev]; first | (rw [if_pos (by omega)]; done) | (rw [if_neg (by omega)])) ?_
        refine AW.istore8 (pc' := 166) dX12_race_164 (by decide) rfl ?_
        refine AW.iload (pc' := 168) dX12_race_166 rfl ?_
        refine AW.ldc (v := 1103515245) (pc' := 170) dX12_race_168 kX12_252 ?_
        refine AW.imul (pc' := 171) dX12_race_170 ?_
        refine AW.sipush (pc' := 174) dX12_race_171 (by decide) ?_
        refine AW.iadd (pc' := 175) dX12_race_174 ?_
        refine AW.cong (b := drF (drF z)) (wr_of _) ?_
        refine AW.istore6 (pc' := 177) dX12_race_175 (by decide) rfl ?_
        refine AW.iload (pc' := 179) dX12_race_177 rfl ?_
        refine AW.bipush (pc' := 181) dX12_race_179 (by decide) ?_
        refine AW.iushr (pc' := 182) dX12_race_181 ?_
        rw [show ((Int32.ofInt (drF (drF z))).toUInt32 >>> ((Int32.ofInt 8).toUInt32 &&& Int32.toUInt32 31)).toInt32.toInt = us8 (drF (drF z)) from rfl]
        have ui11 : inI (us8 (drF (drF z))) := in32 _
        refine AW.bipush (pc' := 184) dX12_race_182 (by decide) ?_
        refine AW.irem (pc' := 185) dX12_race_184 (by first | assumption | omega | (constructor <;> omega) | (simp only [Int.toNat_natCast]; omega) | exact b2_in _) (by first | assumption | omega | (constructor <;> omega) | (simp only [Int.toNat_natCast]; omega) | exact b2_in _) (by first | assumption | omega | (constructor <;> omega) | (simp only [Int.toNat_natCast]; omega) | exact b2_in _) ?_
        rw [show (us8 (drF (drF z))).tmod 21 = ptF (drF (drF z)) 21 from rfl]
        refine AW.bipush (pc' := 187) dX12_race_185 (by decide) ?_
        refine AW.isub (pc' := 188) dX12_race_187 ?_
        refine AW.istore9 (pc' := 190) dX12_race_188 (by decide) rfl ?_
        refine AW.aload_n (pc' := 191) dX12_race_190 rfl ?_
        refine AW.iload (pc' := 193) dX12_race_191 rfl ?_
        refine AW.iload (pc' := 195) dX12_race_193 rfl ?_
        refine AW.invV2 (pc' := 198) dX12_race_195 mlX12_235 mX12_formThen ly_57 rfl (c_X12_formThen (dep := dep - 1) hI2 (by omega) qy) ?_
        try simp only [Int.toNat_natCast, w58, w59, w63, w65, w13, w14, w15, w17, v58, v59, v63, v65, v13, v14, v15, v17, Int.toNat_natCast, ea, ec, es]
        refine AW.aload_n (pc' := 199) dX12_race_198 rfl ?_
        refine AW.getR (pc' := 202) dX12_race_199 ly_57 fX12_31 rfl ?_
        refine AW.iload_n (pc' := 203) dX12_race_202 rfl ?_
        refine AW.bipush (pc' := 205) dX12_race_203 (by decide) ?_
        refine AW.irem (pc' := 206) dX12_race_205 (by first | assumption | omega | (constructor <;> omega) | (simp only [Int.toNat_natCast]; omega) | exact b2_in _) (by first | assumption | omega | (constructor <;> omega) | (simp only [Int.toNat_natCast]; omega) | exact b2_in _) (by first | assumption | omega | (constructor <;> omega) | (simp only [Int.toNat_natCast]; omega) | exact b2_in _) ?_
        try simp only [ec]
        first | refine AW.ialdN (pc' := 207) dX12_race_206 ly_65 (by first | assumption | omega | (constructor <;> omega) | (simp only [Int.toNat_natCast]; omega) | exact b2_in _) (by decide) (fun r206 => ?_) | refine AW.iald (pc' := 207) dX12_race_206 ly_65 (by first | assumption | omega | (constructor <;> omega) | (simp only [Int.toNat_natCast]; omega) | exact b2_in _) (by first | assumption | omega | (constructor <;> omega) | (simp only [Int.toNat_natCast]; omega) | exact b2_in _) (by decide) (fun r206 => ?_)
        try simp only [w58, w59, w63, w65, w13, w14, w15, w17, v58, v59, v63, v65, v13, v14, v15, v17, Int.toNat_natCast, ea, ec, es] at r206 ⊢
        refine AW.imul (pc' := 208) dX12_race_207 ?_
        refine AW.sipush (pc' := 211) dX12_race_208 (by decide) ?_
        refine AW.idiv (pc' := 212) dX12_race_211 (by first | assumption | omega | (constructor <;> omega) | (simp only [Int.toNat_natCast]; omega) | exact b2_in _) (by first | assumption | omega | (constructor <;> omega) | (simp only [Int.toNat_natCast]; omega) | exact b2_in _) (by first | assumption | omega | (constructor <;> omega) | (simp only [Int.toNat_natCast]; omega) | exact b2_in _) ?_
        refine AW.sipush (pc' := 215) dX12_race_212 (by decide) ?_
        refine AW.iload_n (pc' := 216) dX12_race_215 rfl ?_
        refine AW.iadd (pc' := 217) dX12_race_216 ?_
        refine AW.iload (pc' := 219) dX12_race_217 rfl ?_
        refine AW.iadd (pc' := 220) dX12_race_219 ?_
        refine AW.aload_n (pc' := 221) dX12_race_220 rfl ?_
        refine AW.getR (pc' := 224) dX12_race_221 ly_57 fX12_25 rfl ?_
        refine AW.iload (pc' := 226) dX12_race_224 rfl ?_
        first | refine AW.ialdN (pc' := 227) dX12_race_226 ly_63 (by first | assumption | omega | (constructor <;> omega) | (simp only [Int.toNat_natCast]; omega) | exact b2_in _) (by decide) (fun r226 => ?_) | refine AW.iald (pc' := 227) dX12_race_226 ly_63 (by first | assumption | omega | (constructor <;> omega) | (simp only [Int.toNat_natCast]; omega) | exact b2_in _) (by first | assumption | omega | (constructor <;> omega) | (simp only [Int.toNat_natCast]; omega) | exact b2_in _) (by decide) (fun r226 => ?_)
        try simp only [w58, w59, w63, w65, w13, w14, w15, w17, v58, v59, v63, v65, v13, v14, v15, v17, Int.toNat_natCast, ea, ec, es] at r226 ⊢
        refine AW.isub (pc' := 228) dX12_race_227 ?_
        refine AW.imul (pc' := 229) dX12_race_228 ?_
        refine AW.sipush (pc' := 232) dX12_race_229 (by decide) ?_
        refine AW.idiv (pc' := 233) dX12_race_232 (by first | assumption | omega | (constructor <;> omega) | (simp only [Int.toNat_natCast]; omega) | exact b2_in _) (by first | assumption | omega | (constructor <;> omega) | (simp only [Int.toNat_natCast]; omega) | exact b2_in _) (by first | assumption | omega | (constructor <;> omega) | (simp only [Int.toNat_natCast]; omega) | exact b2_in _) ?_
        refine AW.istore10 (pc' := 235) dX12_race_233 (by decide) rfl ?_
        refine AW.iload (pc' := 237) dX12_race_235 rfl ?_
        refine AW.bipush (pc' := 239) dX12_race_237 (by decide) ?_
        refine AW.icmp_ge (tgt := 247) (pc' := 242) dX12_race_239 (by first | assumption | omega | (constructor <;> omega) | (simp only [Int.toNat_natCast]; omega) | exact b2_in _) (by first | assumption | omega | (constructor <;> omega) | (simp only [Int.toNat_natCast]; omega) | exact b2_in _) (fun c239 => ?_) (fun c239 => ?_)
        · refine AW.iload (pc' := 249) dX12_race_247 rfl ?_
          refine AW.sipush (pc' := 252) dX12_race_249 (by decide) ?_
          refine AW.icmp_le (tgt := 261) (pc' := 255) dX12_race_252 (by first | assumption | omega | (constructor <;> omega) | (simp only [Int.toNat_natCast]; omega) | exact b2_in _) (by first | assumption | omega | (constructor <;> omega) | (simp only [Int.toNat_natCast]; omega) | exact b2_in _) (fun c252 => ?_) (fun c252 => ?_)
          · refine AW.iload (pc' := 263) dX12_race_261 rfl ?_
            refine AW.top (b := rtM g law course year shoe day k z) (by unfold rtM tmM; first | (rw [if_pos (by omega)]; done) | (rw [if_neg (by omega), if_pos (by omega)]; done) | (rw [if_neg (by omega), if_neg (by omega)])) ?_
            have rt : 10 ≤ rtM g law course year shoe day k z ∧ rtM g law course year shoe day k z ≤ 29999 := tmM_in _
            refine AW.istore10 (pc' := 265) dX12_race_263 (by decide) rfl ?_
            refine AW.iload (pc' := 267) dX12_race_265 rfl ?_
            refine AW.ldc (v := 1103515245) (pc' := 269) dX12_race_267 kX12_252 ?_
            refine AW.imul (pc' := 270) dX12_race_269 ?_
            refine AW.sipush (pc' := 273) dX12_race_270 (by decide) ?_
            refine AW.iadd (pc' := 274) dX12_race_273 ?_
            refine AW.cong (b := drF (drF (drF z))) (wr_of _) ?_
            refine AW.istore6 (pc' := 276) dX12_race_274 (by decide) rfl ?_
            refine AW.aload_n (pc' := 277) dX12_race_276 rfl ?_
            refine AW.iload (pc' := 279) dX12_race_277 rfl ?_
            refine AW.iload_n (pc' := 280) dX12_race_279 rfl ?_
            refine AW.bipush (pc' := 282) dX12_race_280 (by decide) ?_
            refine AW.irem (pc' := 283) dX12_race_282 (by first | assumption | omega | (constructor <;> omega) | (simp only [Int.toNat_natCast]; omega) | exact b2_in _) (by first | assumption | omega | (constructor <;> omega) | (simp only [Int.toNat_natCast]; omega) | exact b2_in _) (by first | assumption | omega | (constructor <;> omega) | (simp only [Int.toNat_natCast]; omega) | exact b2_in _) ?_
            try simp only [ec]
            refine AW.iload (pc' := 285) dX12_race_283 rfl ?_
            refine AW.iload (pc' := 287) dX12_race_285 rfl ?_
            refine AW.iload (pc' := 289) dX12_race_287 rfl ?_
            refine AW.bipush (pc' := 291) dX12_race_289 (by decide) ?_
            refine AW.iushr (pc' := 292) dX12_race_291 ?_
            rw [show ((Int32.ofInt (drF (drF (drF z)))).toUInt32 >>> ((Int32.ofInt 8).toUInt32 &&& Int32.toUInt32 31)).toInt32.toInt = us8 (drF (drF (drF z))) from rfl]
            have ui17 : inI (us8 (drF (drF (drF z)))) := in32 _
            refine AW.bipush (pc' := 294) dX12_race_292 (by decide) ?_
            refine AW.irem (pc' := 295) dX12_race_294 (by first | assumption | omega | (constructor <;> omega) | (simp only [Int.toNat_natCast]; omega) | exact b2_in _) (by first | assumption | omega | (constructor <;> omega) | (simp only [Int.toNat_natCast]; omega) | exact b2_in _) (by first | assumption | omega | (constructor <;> omega) | (simp only [Int.toNat_natCast]; omega) | exact b2_in _) ?_
            rw [show (us8 (drF (drF (drF z)))).tmod 100 = ptF (drF (drF (drF z))) 100 from rfl]
            refine AW.aload_n (pc' := 296) dX12_race_295 rfl ?_
            refine AW.getI (pc' := 299) dX12_race_296 ly_57 fX12_49 rfl (fun r296 => ?_)
            try simp only [w58, w59, w63, w65, w13, w14, w15, w17, v58, v59, v63, v65, v13, v14, v15, v17, Int.toNat_natCast, ea, ec, es] at r296 ⊢
            refine AW.icmp_ge (tgt := 307) (pc' := 302) dX12_race_299 (by first | assumption | omega | (constructor <;> omega) | (simp only [Int.toNat_natCast]; omega) | exact b2_in _) (by first | assumption | omega | (constructor <;> omega) | (simp only [Int.toNat_natCast]; omega) | exact b2_in _) (fun c299 => ?_) (fun c299 => ?_)
            · refine AW.iconst (pc' := 308) dX12_race_307 ?_
              refine AW.top (b := rsM2 g law shoe year k z) (by unfold rsM2; first | (rw [if_pos (by omega)]; done) | (rw [if_neg (by omega)])) ?_
              have rs : -1 ≤ rsM2 g law shoe year k z ∧ rsM2 g law shoe year k z < g 57 14 := by unfold rsM2; split <;> omega
              refine AW.invV5v (pc' := 311) dX12_race_308 mlX12_145 mX12_comes ly_57 rfl (c_X12_comes (dep := dep - 1) (by omega) (by constructor <;> omega) (by constructor <;> omega) (by constructor <;> omega) (by constructor <;> omega) (by constructor <;> omega)) ?_
              try simp only [Int.toNat_natCast, w58, w59, w63, w65, w13, w14, w15, w17, v58, v59, v63, v65, v13, v14, v15, v17, Int.toNat_natCast, ea, ec, es]
              refine AW.iinc7 (pc' := 314) dX12_race_311 (by decide) rfl ?_
              refine AW.goto (tgt := 109) dX12_race_314 ?_
              have hI3 := hI2.cm (a := (k : Int)) (b := course) (c := year) (d := rtM g law course year shoe day k z) (e := rsM2 g law shoe year k z) (by omega) (by omega) (by omega) qy rt (by omega)
              have n3 := cmM_n h150 (k : Int) course year (rtM g law course year shoe day k z) (rsM2 g law shoe year k z)
              exact AW.weak (ih (k + 1) (drF (drF (drF z))) (cmM h150 (k : Int) course year (rtM g law course year shoe day k z) (rsM2 g law shoe year k z)) (by omega) (e2.tr (cmM_ep h150 (k : Int) course year (rtM g law course year shoe day k z) (rsM2 g law shoe year k z))) hI3 (by omega) (fun x hx => kk x ⟨h150, s150, hx⟩)) (by (repeat' first | exact LSub.e | refine LSub.n ?_ | refine LSub.c ?_ ?_) <;> first | rfl | exact congrArg Sum.inl (by first | rfl | omega | (push_cast; omega)) | exact congrArg (fun z : Int => (vL z : AV)) (by first | rfl | omega | (push_cast; omega)))
            · refine AW.iload (pc' := 304) dX12_race_302 rfl ?_
              refine AW.goto (tgt := 308) dX12_race_304 ?_
              refine AW.top (b := rsM2 g law shoe year k z) (by unfold rsM2; first | (rw [if_pos (by omega)]; done) | (rw [if_neg (by omega)])) ?_
              have rs : -1 ≤ rsM2 g law shoe year k z ∧ rsM2 g law shoe year k z < g 57 14 := by unfold rsM2; split <;> omega
              refine AW.invV5v (pc' := 311) dX12_race_308 mlX12_145 mX12_comes ly_57 rfl (c_X12_comes (dep := dep - 1) (by omega) (by constructor <;> omega) (by constructor <;> omega) (by constructor <;> omega) (by constructor <;> omega) (by constructor <;> omega)) ?_
              try simp only [Int.toNat_natCast, w58, w59, w63, w65, w13, w14, w15, w17, v58, v59, v63, v65, v13, v14, v15, v17, Int.toNat_natCast, ea, ec, es]
              refine AW.iinc7 (pc' := 314) dX12_race_311 (by decide) rfl ?_
              refine AW.goto (tgt := 109) dX12_race_314 ?_
              have hI3 := hI2.cm (a := (k : Int)) (b := course) (c := year) (d := rtM g law course year shoe day k z) (e := rsM2 g law shoe year k z) (by omega) (by omega) (by omega) qy rt (by omega)
              have n3 := cmM_n h150 (k : Int) course year (rtM g law course year shoe day k z) (rsM2 g law shoe year k z)
              exact AW.weak (ih (k + 1) (drF (drF (drF z))) (cmM h150 (k : Int) course year (rtM g law course year shoe day k z) (rsM2 g law shoe year k z)) (by omega) (e2.tr (cmM_ep h150 (k : Int) course year (rtM g law course year shoe day k z) (rsM2 g law shoe year k z))) hI3 (by omega) (fun x hx => kk x ⟨h150, s150, hx⟩)) (by (repeat' first | exact LSub.e | refine LSub.n ?_ | refine LSub.c ?_ ?_) <;> first | rfl | exact congrArg Sum.inl (by first | rfl | omega | (push_cast; omega)) | exact congrArg (fun z : Int => (vL z : AV)) (by first | rfl | omega | (push_cast; omega)))
          · refine AW.sipush (pc' := 258) dX12_race_255 (by decide) ?_
            refine AW.goto (tgt := 263) dX12_race_258 ?_
            refine AW.top (b := rtM g law course year shoe day k z) (by unfold rtM tmM; first | (rw [if_pos (by omega)]; done) | (rw [if_neg (by omega), if_pos (by omega)]; done) | (rw [if_neg (by omega), if_neg (by omega)])) ?_
            have rt : 10 ≤ rtM g law course year shoe day k z ∧ rtM g law course year shoe day k z ≤ 29999 := tmM_in _
            refine AW.istore10 (pc' := 265) dX12_race_263 (by decide) rfl ?_
            refine AW.iload (pc' := 267) dX12_race_265 rfl ?_
            refine AW.ldc (v := 1103515245) (pc' := 269) dX12_race_267 kX12_252 ?_
            refine AW.imul (pc' := 270) dX12_race_269 ?_
            refine AW.sipush (pc' := 273) dX12_race_270 (by decide) ?_
            refine AW.iadd (pc' := 274) dX12_race_273 ?_
            refine AW.cong (b := drF (drF (drF z))) (wr_of _) ?_
            refine AW.istore6 (pc' := 276) dX12_race_274 (by decide) rfl ?_
            refine AW.aload_n (pc' := 277) dX12_race_276 rfl ?_
            refine AW.iload (pc' := 279) dX12_race_277 rfl ?_
            refine AW.iload_n (pc' := 280) dX12_race_279 rfl ?_
            refine AW.bipush (pc' := 282) dX12_race_280 (by decide) ?_
            refine AW.irem (pc' := 283) dX12_race_282 (by first | assumption | omega | (constructor <;> omega) | (simp only [Int.toNat_natCast]; omega) | exact b2_in _) (by first | assumption | omega | (constructor <;> omega) | (simp only [Int.toNat_natCast]; omega) | exact b2_in _) (by first | assumption | omega | (constructor <;> omega) | (simp only [Int.toNat_natCast]; omega) | exact b2_in _) ?_
            try simp only [ec]
            refine AW.iload (pc' := 285) dX12_race_283 rfl ?_
            refine AW.iload (pc' := 287) dX12_race_285 rfl ?_
            refine AW.iload (pc' := 289) dX12_race_287 rfl ?_
            refine AW.bipush (pc' := 291) dX12_race_289 (by decide) ?_
            refine AW.iushr (pc' := 292) dX12_race_291 ?_
            rw [show ((Int32.ofInt (drF (drF (drF z)))).toUInt32 >>> ((Int32.ofInt 8).toUInt32 &&& Int32.toUInt32 31)).toInt32.toInt = us8 (drF (drF (drF z))) from rfl]
            have ui17 : inI (us8 (drF (drF (drF z)))) := in32 _
            refine AW.bipush (pc' := 294) dX12_race_292 (by decide) ?_
            refine AW.irem (pc' := 295) dX12_race_294 (by first | assumption | omega | (constructor <;> omega) | (simp only [Int.toNat_natCast]; omega) | exact b2_in _) (by first | assumption | omega | (constructor <;> omega) | (simp only [Int.toNat_natCast]; omega) | exact b2_in _) (by first | assumption | omega | (constructor <;> omega) | (simp only [Int.toNat_natCast]; omega) | exact b2_in _) ?_
            rw [show (us8 (drF (drF (drF z)))).tmod 100 = ptF (drF (drF (drF z))) 100 from rfl]
            refine AW.aload_n (pc' := 296) dX12_race_295 rfl ?_
            refine AW.getI (pc' := 299) dX12_race_296 ly_57 fX12_49 rfl (fun r296 => ?_)
            try simp only [w58, w59, w63, w65, w13, w14, w15, w17, v58, v59, v63, v65, v13, v14, v15, v17, Int.toNat_natCast, ea, ec, es] at r296 ⊢
            refine AW.icmp_ge (tgt := 307) (pc' := 302) dX12_race_299 (by first | assumption | omega | (constructor <;> omega) | (simp only [Int.toNat_natCast]; omega) | exact b2_in _) (by first | assumption | omega | (constructor <;> omega) | (simp only [Int.toNat_natCast]; omega) | exact b2_in _) (fun c299 => ?_) (fun c299 => ?_)
            · refine AW.iconst (pc' := 308) dX12_race_307 ?_
              refine AW.top (b := rsM2 g law shoe year k z) (by unfold rsM2; first | (rw [if_pos (by omega)]; done) | (rw [if_neg (by omega)])) ?_
              have rs : -1 ≤ rsM2 g law shoe year k z ∧ rsM2 g law shoe year k z < g 57 14 := by unfold rsM2; split <;> omega
              refine AW.invV5v (pc' := 311) dX12_race_308 mlX12_145 mX12_comes ly_57 rfl (c_X12_comes (dep := dep - 1) (by omega) (by constructor <;> omega) (by constructor <;> omega) (by constructor <;> omega) (by constructor <;> omega) (by constructor <;> omega)) ?_
              try simp only [Int.toNat_natCast, w58, w59, w63, w65, w13, w14, w15, w17, v58, v59, v63, v65, v13, v14, v15, v17, Int.toNat_natCast, ea, ec, es]
              refine AW.iinc7 (pc' := 314) dX12_race_311 (by decide) rfl ?_
              refine AW.goto (tgt := 109) dX12_race_314 ?_
              have hI3 := hI2.cm (a := (k : Int)) (b := course) (c := year) (d := rtM g law course year shoe day k z) (e := rsM2 g law shoe year k z) (by omega) (by omega) (by omega) qy rt (by omega)
              have n3 := cmM_n h150 (k : Int) course year (rtM g law course year shoe day k z) (rsM2 g law shoe year k z)
              exact AW.weak (ih (k + 1) (drF (drF (drF z))) (cmM h150 (k : Int) course year (rtM g law course year shoe day k z) (rsM2 g law shoe year k z)) (by omega) (e2.tr (cmM_ep h150 (k : Int) course year (rtM g law course year shoe day k z) (rsM2 g law shoe year k z))) hI3 (by omega) (fun x hx => kk x ⟨h150, s150, hx⟩)) (by (repeat' first | exact LSub.e | refine LSub.n ?_ | refine LSub.c ?_ ?_) <;> first | rfl | exact congrArg Sum.inl (by first | rfl | omega | (push_cast; omega)) | exact congrArg (fun z : Int => (vL z : AV)) (by first | rfl | omega | (push_cast; omega)))
            · refine AW.iload (pc' := 304) dX12_race_302 rfl ?_
              refine AW.goto (tgt := 308) dX12_race_304 ?_
              refine AW.top (b := rsM2 g law shoe year k z) (by unfold rsM2; first | (rw [if_pos (by omega)]; done) | (rw [if_neg (by omega)])) ?_
              have rs : -1 ≤ rsM2 g law shoe year k z ∧ rsM2 g law shoe year k z < g 57 14 := by unfold rsM2; split <;> omega
              refine AW.invV5v (pc' := 311) dX12_race_308 mlX12_145 mX12_comes ly_57 rfl (c_X12_comes (dep := dep - 1) (by omega) (by constructor <;> omega) (by constructor <;> omega) (by constructor <;> omega) (by constructor <;> omega) (by constructor <;> omega)) ?_
              try simp only [Int.toNat_natCast, w58, w59, w63, w65, w13, w14, w15, w17, v58, v59, v63, v65, v13, v14, v15, v17, Int.toNat_natCast, ea, ec, es]
              refine AW.iinc7 (pc' := 314) dX12_race_311 (by decide) rfl ?_
              refine AW.goto (tgt := 109) dX12_race_314 ?_
              have hI3 := hI2.cm (a := (k : Int)) (b := course) (c := year) (d := rtM g law course year shoe day k z) (e := rsM2 g law shoe year k z) (by omega) (by omega) (by omega) qy rt (by omega)
              have n3 := cmM_n h150 (k : Int) course year (rtM g law course year shoe day k z) (rsM2 g law shoe year k z)
              exact AW.weak (ih (k + 1) (drF (drF (drF z))) (cmM h150 (k : Int) course year (rtM g law course year shoe day k z) (rsM2 g law shoe year k z)) (by omega) (e2.tr (cmM_ep h150 (k : Int) course year (rtM g law course year shoe day k z) (rsM2 g law shoe year k z))) hI3 (by omega) (fun x hx => kk x ⟨h150, s150, hx⟩)) (by (repeat' first | exact LSub.e | refine LSub.n ?_ | refine LSub.c ?_ ?_) <;> first | rfl | exact congrArg Sum.inl (by first | rfl | omega | (push_cast; omega)) | exact congrArg (fun z : Int => (vL z : AV)) (by first | rfl | omega | (push_cast; omega)))
        · refine AW.bipush (pc' := 244) dX12_race_242 (by decide) ?_
          refine AW.goto (tgt := 263) dX12_race_244 ?_
          refine AW.top (b := rtM g law course year shoe day k z) (by unfold rtM tmM; first | (rw [if_pos (by omega)]; done) | (rw [if_neg (by omega), if_pos (by omega)]; done) | (rw [if_neg (by omega), if_neg (by omega)])) ?_
          have rt : 10 ≤ rtM g law course year shoe day k z ∧ rtM g law course year shoe day k z ≤ 29999 := tmM_in _
          refine AW.istore10 (pc' := 265) dX12_race_263 (by decide) rfl ?_
          refine AW.iload (pc' := 267) dX12_race_265 rfl ?_
          refine AW.ldc (v := 1103515245) (pc' := 269) dX12_race_267 kX12_252 ?_
          refine AW.imul (pc' := 270) dX12_race_269 ?_
          refine AW.sipush (pc' := 273) dX12_race_270 (by decide) ?_
          refine AW.iadd (pc' := 274) dX12_race_273 ?_
          refine AW.cong (b := drF (drF (drF z))) (wr_of _) ?_
          refine AW.istore6 (pc' := 276) dX12_race_274 (by decide) rfl ?_
          refine AW.aload_n (pc' := 277) dX12_race_276 rfl ?_
          refine AW.iload (pc' := 279) dX12_race_277 rfl ?_
          refine AW.iload_n (pc' := 280) dX12_race_279 rfl ?_
          refine AW.bipush (pc' := 282) dX12_race_280 (by decide) ?_
          refine AW.irem (pc' := 283) dX12_race_282 (by first | assumption | omega | (constructor <;> omega) | (simp only [Int.toNat_natCast]; omega) | exact b2_in _) (by first | assumption | omega | (constructor <;> omega) | (simp only [Int.toNat_natCast]; omega) | exact b2_in _) (by first | assumption | omega | (constructor <;> omega) | (simp only [Int.toNat_natCast]; omega) | exact b2_in _) ?_
          try simp only [ec]
          refine AW.iload (pc' := 285) dX12_race_283 rfl ?_
          refine AW.iload (pc' := 287) dX12_race_285 rfl ?_
          refine AW.iload (pc' := 289) dX12_race_287 rfl ?_
          refine AW.bipush (pc' := 291) dX12_race_289 (by decide) ?_
          refine AW.iushr (pc' := 292) dX12_race_291 ?_
          rw [show ((Int32.ofInt (drF (drF (drF z)))).toUInt32 >>> ((Int32.ofInt 8).toUInt32 &&& Int32.toUInt32 31)).toInt32.toInt = us8 (drF (drF (drF z))) from rfl]
          have ui17 : inI (us8 (drF (drF (drF z)))) := in32 _
          refine AW.bipush (pc' := 294) dX12_race_292 (by decide) ?_
          refine AW.irem (pc' := 295) dX12_race_294 (by first | assumption | omega | (constructor <;> omega) | (simp only [Int.toNat_natCast]; omega) | exact b2_in _) (by first | assumption | omega | (constructor <;> omega) | (simp only [Int.toNat_natCast]; omega) | exact b2_in _) (by first | assumption | omega | (constructor <;> omega) | (simp only [Int.toNat_natCast]; omega) | exact b2_in _) ?_
          rw [show (us8 (drF (drF (drF z)))).tmod 100 = ptF (drF (drF (drF z))) 100 from rfl]
          refine AW.aload_n (pc' := 296) dX12_race_295 rfl ?_
          refine AW.getI (pc' := 299) dX12_race_296 ly_57 fX12_49 rfl (fun r296 => ?_)
          try simp only [w58, w59, w63, w65, w13, w14, w15, w17, v58, v59, v63, v65, v13, v14, v15, v17, Int.toNat_natCast, ea, ec, es] at r296 ⊢
          refine AW.icmp_ge (tgt := 307) (pc' := 302) dX12_race_299 (by first | assumption | omega | (constructor <;> omega) | (simp only [Int.toNat_natCast]; omega) | exact b2_in _) (by first | assumption | omega | (constructor <;> omega) | (simp only [Int.toNat_natCast]; omega) | exact b2_in _) (fun c299 => ?_) (fun c299 => ?_)
          · refine AW.iconst (pc' := 308) dX12_race_307 ?_
            refine AW.top (b := rsM2 g law shoe year k z) (by unfold rsM2; first | (rw [if_pos (by omega)]; done) | (rw [if_neg (by omega)])) ?_
            have rs : -1 ≤ rsM2 g law shoe year k z ∧ rsM2 g law shoe year k z < g 57 14 := by unfold rsM2; split <;> omega
            refine AW.invV5v (pc' := 311) dX12_race_308 mlX12_145 mX12_comes ly_57 rfl (c_X12_comes (dep := dep - 1) (by omega) (by constructor <;> omega) (by constructor <;> omega) (by constructor <;> omega) (by constructor <;> omega) (by constructor <;> omega)) ?_
            try simp only [Int.toNat_natCast, w58, w59, w63, w65, w13, w14, w15, w17, v58, v59, v63, v65, v13, v14, v15, v17, Int.toNat_natCast, ea, ec, es]
            refine AW.iinc7 (pc' := 314) dX12_race_311 (by decide) rfl ?_
            refine AW.goto (tgt := 109) dX12_race_314 ?_
            have hI3 := hI2.cm (a := (k : Int)) (b := course) (c := year) (d := rtM g law course year shoe day k z) (e := rsM2 g law shoe year k z) (by omega) (by omega) (by omega) qy rt (by omega)
            have n3 := cmM_n h150 (k : Int) course year (rtM g law course year shoe day k z) (rsM2 g law shoe year k z)
            exact AW.weak (ih (k + 1) (drF (drF (drF z))) (cmM h150 (k : Int) course year (rtM g law course year shoe day k z) (rsM2 g law shoe year k z)) (by omega) (e2.tr (cmM_ep h150 (k : Int) course year (rtM g law course year shoe day k z) (rsM2 g law shoe year k z))) hI3 (by omega) (fun x hx => kk x ⟨h150, s150, hx⟩)) (by (repeat' first | exact LSub.e | refine LSub.n ?_ | refine LSub.c ?_ ?_) <;> first | rfl | exact congrArg Sum.inl (by first | rfl | omega | (push_cast; omega)) | exact congrArg (fun z : Int => (vL z : AV)) (by first | rfl | omega | (push_cast; omega)))
          · refine AW.iload (pc' := 304) dX12_race_302 rfl ?_
            refine AW.goto (tgt := 308) dX12_race_304 ?_
            refine AW.top (b := rsM2 g law shoe year k z) (by unfold rsM2; first | (rw [if_pos (by omega)]; done) | (rw [if_neg (by omega)])) ?_
            have rs : -1 ≤ rsM2 g law shoe year k z ∧ rsM2 g law shoe year k z < g 57 14 := by unfold rsM2; split <;> omega
            refine AW.invV5v (pc' := 311) dX12_race_308 mlX12_145 mX12_comes ly_57 rfl (c_X12_comes (dep := dep - 1) (by omega) (by constructor <;> omega) (by constructor <;> omega) (by constructor <;> omega) (by constructor <;> omega) (by constructor <;> omega)) ?_
            try simp only [Int.toNat_natCast, w58, w59, w63, w65, w13, w14, w15, w17, v58, v59, v63, v65, v13, v14, v15, v17, Int.toNat_natCast, ea, ec, es]
            refine AW.iinc7 (pc' := 314) dX12_race_311 (by decide) rfl ?_
            refine AW.goto (tgt := 109) dX12_race_314 ?_
            have hI3 := hI2.cm (a := (k : Int)) (b := course) (c := year) (d := rtM g law course year shoe day k z) (e := rsM2 g law shoe year k z) (by omega) (by omega) (by omega) qy rt (by omega)
            have n3 := cmM_n h150 (k : Int) course year (rtM g law course year shoe day k z) (rsM2 g law shoe year k z)
            exact AW.weak (ih (k + 1) (drF (drF (drF z))) (cmM h150 (k : Int) course year (rtM g law course year shoe day k z) (rsM2 g law shoe year k z)) (by omega) (e2.tr (cmM_ep h150 (k : Int) course year (rtM g law course year shoe day k z) (rsM2 g law shoe year k z))) hI3 (by omega) (fun x hx => kk x ⟨h150, s150, hx⟩)) (by (repeat' first | exact LSub.e | refine LSub.n ?_ | refine LSub.c ?_ ?_) <;> first | rfl | exact congrArg Sum.inl (by first | rfl | omega | (push_cast; omega)) | exact congrArg (fun z : Int => (vL z : AV)) (by first | rfl | omega | (push_cast; omega)))
      · refine AW.iload_n (pc' := 157) dX12_race_156 rfl ?_
        refine AW.bipush (pc' := 159) dX12_race_157 (by decide) ?_
        refine AW.irem (pc' := 160) dX12_race_159 (by first | assumption | omega | (constructor <;> omega) | (simp only [Int.toNat_natCast]; omega) | exact b2_in _) (by first | assumption | omega | (constructor <;> omega) | (simp only [Int.toNat_natCast]; omega) | exact b2_in _) (by first | assumption | omega | (constructor <;> omega) | (simp only [Int.toNat_natCast]; omega) | exact b2_in _) ?_
        try simp only [es]
        refine AW.goto (tgt := 164) dX12_race_160 ?_
        refine AW.top (b := wornM g law shoe year k (drF z)) (by unfold wornM; rw [hev]; first | (rw [if_pos (by omega)]; done) | (rw [if_neg (by omega)])) ?_
        refine AW.istore8 (pc' := 166) dX12_race_164 (by decide) rfl ?_
        refine AW.iload (pc' := 168) dX12_race_166 rfl ?_
        refine AW.ldc (v := 1103515245) (pc' := 170) dX12_race_168 kX12_252 ?_
        refine AW.imul (pc' := 171) dX12_race_170 ?_
        refine AW.sipush (pc' := 174) dX12_race_171 (by decide) ?_
        refine AW.iadd (pc' := 175) dX12_race_174 ?_
        refine AW.cong (b := drF (drF z)) (wr_of _) ?_
        refine AW.istore6 (pc' := 177) dX12_race_175 (by decide) rfl ?_
        refine AW.iload (pc' := 179) dX12_race_177 rfl ?_
        refine AW.bipush (pc' := 181) dX12_race_179 (by decide) ?_
        refine AW.iushr (pc' := 182) dX12_race_181 ?_
        rw [show ((Int32.ofInt (drF (drF z))).toUInt32 >>> ((Int32.ofInt 8).toUInt32 &&& Int32.toUInt32 31)).toInt32.toInt = us8 (drF (drF z)) from rfl]
        have ui11 : inI (us8 (drF (drF z))) := in32 _
        refine AW.bipush (pc' := 184) dX12_race_182 (by decide) ?_
        refine AW.irem (pc' := 185) dX12_race_184 (by first | assumption | omega | (constructor <;> omega) | (simp only [Int.toNat_natCast]; omega) | exact b2_in _) (by first | assumption | omega | (constructor <;> omega) | (simp only [Int.toNat_natCast]; omega) | exact b2_in _) (by first | assumption | omega | (constructor <;> omega) | (simp only [Int.toNat_natCast]; omega) | exact b2_in _) ?_
        rw [show (us8 (drF (drF z))).tmod 21 = ptF (drF (drF z)) 21 from rfl]
        refine AW.bipush (pc' := 187) dX12_race_185 (by decide) ?_
        refine AW.isub (pc' := 188) dX12_race_187 ?_
        refine AW.istore9 (pc' := 190) dX12_race_188 (by decide) rfl ?_
        refine AW.aload_n (pc' := 191) dX12_race_190 rfl ?_
        refine AW.iload (pc' := 193) dX12_race_191 rfl ?_
        refine AW.iload (pc' := 195) dX12_race_193 rfl ?_
        refine AW.invV2 (pc' := 198) dX12_race_195 mlX12_235 mX12_formThen ly_57 rfl (c_X12_formThen (dep := dep - 1) hI2 (by omega) qy) ?_
        try simp only [Int.toNat_natCast, w58, w59, w63, w65, w13, w14, w15, w17, v58, v59, v63, v65, v13, v14, v15, v17, Int.toNat_natCast, ea, ec, es]
        refine AW.aload_n (pc' := 199) dX12_race_198 rfl ?_
        refine AW.getR (pc' := 202) dX12_race_199 ly_57 fX12_31 rfl ?_
        refine AW.iload_n (pc' := 203) dX12_race_202 rfl ?_
        refine AW.bipush (pc' := 205) dX12_race_203 (by decide) ?_
        refine AW.irem (pc' := 206) dX12_race_205 (by first | assumption | omega | (constructor <;> omega) | (simp only [Int.toNat_natCast]; omega) | exact b2_in _) (by first | assumption | omega | (constructor <;> omega) | (simp only [Int.toNat_natCast]; omega) | exact b2_in _) (by first | assumption | omega | (constructor <;> omega) | (simp only [Int.toNat_natCast]; omega) | exact b2_in _) ?_
        try simp only [ec]
        first | refine AW.ialdN (pc' := 207) dX12_race_206 ly_65 (by first | assumption | omega | (constructor <;> omega) | (simp only [Int.toNat_natCast]; omega) | exact b2_in _) (by decide) (fun r206 => ?_) | refine AW.iald (pc' := 207) dX12_race_206 ly_65 (by first | assumption | omega | (constructor <;> omega) | (simp only [Int.toNat_natCast]; omega) | exact b2_in _) (by first | assumption | omega | (constructor <;> omega) | (simp only [Int.toNat_natCast]; omega) | exact b2_in _) (by decide) (fun r206 => ?_)
        try simp only [w58, w59, w63, w65, w13, w14, w15, w17, v58, v59, v63, v65, v13, v14, v15, v17, Int.toNat_natCast, ea, ec, es] at r206 ⊢
        refine AW.imul (pc' := 208) dX12_race_207 ?_
        refine AW.sipush (pc' := 211) dX12_race_208 (by decide) ?_
        refine AW.idiv (pc' := 212) dX12_race_211 (by first | assumption | omega | (constructor <;> omega) | (simp only [Int.toNat_natCast]; omega) | exact b2_in _) (by first | assumption | omega | (constructor <;> omega) | (simp only [Int.toNat_natCast]; omega) | exact b2_in _) (by first | assumption | omega | (constructor <;> omega) | (simp only [Int.toNat_natCast]; omega) | exact b2_in _) ?_
        refine AW.sipush (pc' := 215) dX12_race_212 (by decide) ?_
        refine AW.iload_n (pc' := 216) dX12_race_215 rfl ?_
        refine AW.iadd (pc' := 217) dX12_race_216 ?_
        refine AW.iload (pc' := 219) dX12_race_217 rfl ?_
        refine AW.iadd (pc' := 220) dX12_race_219 ?_
        refine AW.aload_n (pc' := 221) dX12_race_220 rfl ?_
        refine AW.getR (pc' := 224) dX12_race_221 ly_57 fX12_25 rfl ?_
        refine AW.iload (pc' := 226) dX12_race_224 rfl ?_
        first | refine AW.ialdN (pc' := 227) dX12_race_226 ly_63 (by first | assumption | omega | (constructor <;> omega) | (simp only [Int.toNat_natCast]; omega) | exact b2_in _) (by decide) (fun r226 => ?_) | refine AW.iald (pc' := 227) dX12_race_226 ly_63 (by first | assumption | omega | (constructor <;> omega) | (simp only [Int.toNat_natCast]; omega) | exact b2_in _) (by first | assumption | omega | (constructor <;> omega) | (simp only [Int.toNat_natCast]; omega) | exact b2_in _) (by decide) (fun r226 => ?_)
        try simp only [w58, w59, w63, w65, w13, w14, w15, w17, v58, v59, v63, v65, v13, v14, v15, v17, Int.toNat_natCast, ea, ec, es] at r226 ⊢
        refine AW.isub (pc' := 228) dX12_race_227 ?_
        refine AW.imul (pc' := 229) dX12_race_228 ?_
        refine AW.sipush (pc' := 232) dX12_race_229 (by decide) ?_
        refine AW.idiv (pc' := 233) dX12_race_232 (by first | assumption | omega | (constructor <;> omega) | (simp only [Int.toNat_natCast]; omega) | exact b2_in _) (by first | assumption | omega | (constructor <;> omega) | (simp only [Int.toNat_natCast]; omega) | exact b2_in _) (by first | assumption | omega | (constructor <;> omega) | (simp only [Int.toNat_natCast]; omega) | exact b2_in _) ?_
        refine AW.istore10 (pc' := 235) dX12_race_233 (by decide) rfl ?_
        refine AW.iload (pc' := 237) dX12_race_235 rfl ?_
        refine AW.bipush (pc' := 239) dX12_race_237 (by decide) ?_
        refine AW.icmp_ge (tgt := 247) (pc' := 242) dX12_race_239 (by first | assumption | omega | (constructor <;> omega) | (simp only [Int.toNat_natCast]; omega) | exact b2_in _) (by first | assumption | omega | (constructor <;> omega) | (simp only [Int.toNat_natCast]; omega) | exact b2_in _) (fun c239 => ?_) (fun c239 => ?_)
        · refine AW.iload (pc' := 249) dX12_race_247 rfl ?_
          refine AW.sipush (pc' := 252) dX12_race_249 (by decide) ?_
          refine AW.icmp_le (tgt := 261) (pc' := 255) dX12_race_252 (by first | assumption | omega | (constructor <;> omega) | (simp only [Int.toNat_natCast]; omega) | exact b2_in _) (by first | assumption | omega | (constructor <;> omega) | (simp only [Int.toNat_natCast]; omega) | exact b2_in _) (fun c252 => ?_) (fun c252 => ?_)
          · refine AW.iload (pc' := 263) dX12_race_261 rfl ?_
            refine AW.top (b := rtM g law course year shoe day k z) (by unfold rtM tmM; first | (rw [if_pos (by omega)]; done) | (rw [if_neg (by omega), if_pos (by omega)]; done) | (rw [if_neg (by omega), if_neg (by omega)])) ?_
            have rt : 10 ≤ rtM g law course year shoe day k z ∧ rtM g law course year shoe day k z ≤ 29999 := tmM_in _
            refine AW.istore10 (pc' := 265) dX12_race_263 (by decide) rfl ?_
            refine AW.iload (pc' := 267) dX12_race_265 rfl ?_
            refine AW.ldc (v := 1103515245) (pc' := 269) dX12_race_267 kX12_252 ?_
            refine AW.imul (pc' := 270) dX12_race_269 ?_
            refine AW.sipush (pc' := 273) dX12_race_270 (by decide) ?_
            refine AW.iadd (pc' := 274) dX12_race_273 ?_
            refine AW.cong (b := drF (drF (drF z))) (wr_of _) ?_
            refine AW.istore6 (pc' := 276) dX12_race_274 (by decide) rfl ?_
            refine AW.aload_n (pc' := 277) dX12_race_276 rfl ?_
            refine AW.iload (pc' := 279) dX12_race_277 rfl ?_
            refine AW.iload_n (pc' := 280) dX12_race_279 rfl ?_
            refine AW.bipush (pc' := 282) dX12_race_280 (by decide) ?_
            refine AW.irem (pc' := 283) dX12_race_282 (by first | assumption | omega | (constructor <;> omega) | (simp only [Int.toNat_natCast]; omega) | exact b2_in _) (by first | assumption | omega | (constructor <;> omega) | (simp only [Int.toNat_natCast]; omega) | exact b2_in _) (by first | assumption | omega | (constructor <;> omega) | (simp only [Int.toNat_natCast]; omega) | exact b2_in _) ?_
            try simp only [ec]
            refine AW.iload (pc' := 285) dX12_race_283 rfl ?_
            refine AW.iload (pc' := 287) dX12_race_285 rfl ?_
            refine AW.iload (pc' := 289) dX12_race_287 rfl ?_
            refine AW.bipush (pc' := 291) dX12_race_289 (by decide) ?_
            refine AW.iushr (pc' := 292) dX12_race_291 ?_
            rw [show ((Int32.ofInt (drF (drF (drF z)))).toUInt32 >>> ((Int32.ofInt 8).toUInt32 &&& Int32.toUInt32 31)).toInt32.toInt = us8 (drF (drF (drF z))) from rfl]
            have ui17 : inI (us8 (drF (drF (drF z)))) := in32 _
            refine AW.bipush (pc' := 294) dX12_race_292 (by decide) ?_
            refine AW.irem (pc' := 295) dX12_race_294 (by first | assumption | omega | (constructor <;> omega) | (simp only [Int.toNat_natCast]; omega) | exact b2_in _) (by first | assumption | omega | (constructor <;> omega) | (simp only [Int.toNat_natCast]; omega) | exact b2_in _) (by first | assumption | omega | (constructor <;> omega) | (simp only [Int.toNat_natCast]; omega) | exact b2_in _) ?_
            rw [show (us8 (drF (drF (drF z)))).tmod 100 = ptF (drF (drF (drF z))) 100 from rfl]
            refine AW.aload_n (pc' := 296) dX12_race_295 rfl ?_
            refine AW.getI (pc' := 299) dX12_race_296 ly_57 fX12_49 rfl (fun r296 => ?_)
            try simp only [w58, w59, w63, w65, w13, w14, w15, w17, v58, v59, v63, v65, v13, v14, v15, v17, Int.toNat_natCast, ea, ec, es] at r296 ⊢
            refine AW.icmp_ge (tgt := 307) (pc' := 302) dX12_race_299 (by first | assumption | omega | (constructor <;> omega) | (simp only [Int.toNat_natCast]; omega) | exact b2_in _) (by first | assumption | omega | (constructor <;> omega) | (simp only [Int.toNat_natCast]; omega) | exact b2_in _) (fun c299 => ?_) (fun c299 => ?_)
            · refine AW.iconst (pc' := 308) dX12_race_307 ?_
              refine AW.top (b := rsM2 g law shoe year k z) (by unfold rsM2; first | (rw [if_pos (by omega)]; done) | (rw [if_neg (by omega)])) ?_
              have rs : -1 ≤ rsM2 g law shoe year k z ∧ rsM2 g law shoe year k z < g 57 14 := by unfold rsM2; split <;> omega
              refine AW.invV5v (pc' := 311) dX12_race_308 mlX12_145 mX12_comes ly_57 rfl (c_X12_comes (dep := dep - 1) (by omega) (by constructor <;> omega) (by constructor <;> omega) (by constructor <;> omega) (by constructor <;> omega) (by constructor <;> omega)) ?_
              try simp only [Int.toNat_natCast, w58, w59, w63, w65, w13, w14, w15, w17, v58, v59, v63, v65, v13, v14, v15, v17, Int.toNat_natCast, ea, ec, es]
              refine AW.iinc7 (pc' := 314) dX12_race_311 (by decide) rfl ?_
              refine AW.goto (tgt := 109) dX12_race_314 ?_
              have hI3 := hI2.cm (a := (k : Int)) (b := course) (c := year) (d := rtM g law course year shoe day k z) (e := rsM2 g law shoe year k z) (by omega) (by omega) (by omega) qy rt (by omega)
              have n3 := cmM_n h150 (k : Int) course year (rtM g law course year shoe day k z) (rsM2 g law shoe year k z)
              exact AW.weak (ih (k + 1) (drF (drF (drF z))) (cmM h150 (k : Int) course year (rtM g law course year shoe day k z) (rsM2 g law shoe year k z)) (by omega) (e2.tr (cmM_ep h150 (k : Int) course year (rtM g law course year shoe day k z) (rsM2 g law shoe year k z))) hI3 (by omega) (fun x hx => kk x ⟨h150, s150, hx⟩)) (by (repeat' first | exact LSub.e | refine LSub.n ?_ | refine LSub.c ?_ ?_) <;> first | rfl | exact congrArg Sum.inl (by first | rfl | omega | (push_cast; omega)) | exact congrArg (fun z : Int => (vL z : AV)) (by first | rfl | omega | (push_cast; omega)))
            · refine AW.iload (pc' := 304) dX12_race_302 rfl ?_
              refine AW.goto (tgt := 308) dX12_race_304 ?_
              refine AW.top (b := rsM2 g law shoe year k z) (by unfold rsM2; first | (rw [if_pos (by omega)]; done) | (rw [if_neg (by omega)])) ?_
              have rs : -1 ≤ rsM2 g law shoe year k z ∧ rsM2 g law shoe year k z < g 57 14 := by unfold rsM2; split <;> omega
              refine AW.invV5v (pc' := 311) dX12_race_308 mlX12_145 mX12_comes ly_57 rfl (c_X12_comes (dep := dep - 1) (by omega) (by constructor <;> omega) (by constructor <;> omega) (by constructor <;> omega) (by constructor <;> omega) (by constructor <;> omega)) ?_
              try simp only [Int.toNat_natCast, w58, w59, w63, w65, w13, w14, w15, w17, v58, v59, v63, v65, v13, v14, v15, v17, Int.toNat_natCast, ea, ec, es]
              refine AW.iinc7 (pc' := 314) dX12_race_311 (by decide) rfl ?_
              refine AW.goto (tgt := 109) dX12_race_314 ?_
              have hI3 := hI2.cm (a := (k : Int)) (b := course) (c := year) (d := rtM g law course year shoe day k z) (e := rsM2 g law shoe year k z) (by omega) (by omega) (by omega) qy rt (by omega)
              have n3 := cmM_n h150 (k : Int) course year (rtM g law course year shoe day k z) (rsM2 g law shoe year k z)
              exact AW.weak (ih (k + 1) (drF (drF (drF z))) (cmM h150 (k : Int) course year (rtM g law course year shoe day k z) (rsM2 g law shoe year k z)) (by omega) (e2.tr (cmM_ep h150 (k : Int) course year (rtM g law course year shoe day k z) (rsM2 g law shoe year k z))) hI3 (by omega) (fun x hx => kk x ⟨h150, s150, hx⟩)) (by (repeat' first | exact LSub.e | refine LSub.n ?_ | refine LSub.c ?_ ?_) <;> first | rfl | exact congrArg Sum.inl (by first | rfl | omega | (push_cast; omega)) | exact congrArg (fun z : Int => (vL z : AV)) (by first | rfl | omega | (push_cast; omega)))
          · refine AW.sipush (pc' := 258) dX12_race_255 (by decide) ?_
            refine AW.goto (tgt := 263) dX12_race_258 ?_
            refine AW.top (b := rtM g law course year shoe day k z) (by unfold rtM tmM; first | (rw [if_pos (by omega)]; done) | (rw [if_neg (by omega), if_pos (by omega)]; done) | (rw [if_neg (by omega), if_neg (by omega)])) ?_
            have rt : 10 ≤ rtM g law course year shoe day k z ∧ rtM g law course year shoe day k z ≤ 29999 := tmM_in _
            refine AW.istore10 (pc' := 265) dX12_race_263 (by decide) rfl ?_
            refine AW.iload (pc' := 267) dX12_race_265 rfl ?_
            refine AW.ldc (v := 1103515245) (pc' := 269) dX12_race_267 kX12_252 ?_
            refine AW.imul (pc' := 270) dX12_race_269 ?_
            refine AW.sipush (pc' := 273) dX12_race_270 (by decide) ?_
            refine AW.iadd (pc' := 274) dX12_race_273 ?_
            refine AW.cong (b := drF (drF (drF z))) (wr_of _) ?_
            refine AW.istore6 (pc' := 276) dX12_race_274 (by decide) rfl ?_
            refine AW.aload_n (pc' := 277) dX12_race_276 rfl ?_
            refine AW.iload (pc' := 279) dX12_race_277 rfl ?_
            refine AW.iload_n (pc' := 280) dX12_race_279 rfl ?_
            refine AW.bipush (pc' := 282) dX12_race_280 (by decide) ?_
            refine AW.irem (pc' := 283) dX12_race_282 (by first | assumption | omega | (constructor <;> omega) | (simp only [Int.toNat_natCast]; omega) | exact b2_in _) (by first | assumption | omega | (constructor <;> omega) | (simp only [Int.toNat_natCast]; omega) | exact b2_in _) (by first | assumption | omega | (constructor <;> omega) | (simp only [Int.toNat_natCast]; omega) | exact b2_in _) ?_
            try simp only [ec]
            refine AW.iload (pc' := 285) dX12_race_283 rfl ?_
            refine AW.iload (pc' := 287) dX12_race_285 rfl ?_
            refine AW.iload (pc' := 289) dX12_race_287 rfl ?_
            refine AW.bipush (pc' := 291) dX12_race_289 (by decide) ?_
            refine AW.iushr (pc' := 292) dX12_race_291 ?_
            rw [show ((Int32.ofInt (drF (drF (drF z)))).toUInt32 >>> ((Int32.ofInt 8).toUInt32 &&& Int32.toUInt32 31)).toInt32.toInt = us8 (drF (drF (drF z))) from rfl]
            have ui17 : inI (us8 (drF (drF (drF z)))) := in32 _
            refine AW.bipush (pc' := 294) dX12_race_292 (by decide) ?_
            refine AW.irem (pc' := 295) dX12_race_294 (by first | assumption | omega | (constructor <;> omega) | (simp only [Int.toNat_natCast]; omega) | exact b2_in _) (by first | assumption | omega | (constructor <;> omega) | (simp only [Int.toNat_natCast]; omega) | exact b2_in _) (by first | assumption | omega | (constructor <;> omega) | (simp only [Int.toNat_natCast]; omega) | exact b2_in _) ?_
            rw [show (us8 (drF (drF (drF z)))).tmod 100 = ptF (drF (drF (drF z))) 100 from rfl]
            refine AW.aload_n (pc' := 296) dX12_race_295 rfl ?_
            refine AW.getI (pc' := 299) dX12_race_296 ly_57 fX12_49 rfl (fun r296 => ?_)
            try simp only [w58, w59, w63, w65, w13, w14, w15, w17, v58, v59, v63, v65, v13, v14, v15, v17, Int.toNat_natCast, ea, ec, es] at r296 ⊢
            refine AW.icmp_ge (tgt := 307) (pc' := 302) dX12_race_299 (by first | assumption | omega | (constructor <;> omega) | (simp only [Int.toNat_natCast]; omega) | exact b2_in _) (by first | assumption | omega | (constructor <;> omega) | (simp only [Int.toNat_natCast]; omega) | exact b2_in _) (fun c299 => ?_) (fun c299 => ?_)
            · refine AW.iconst (pc' := 308) dX12_race_307 ?_
              refine AW.top (b := rsM2 g law shoe year k z) (by unfold rsM2; first | (rw [if_pos (by omega)]; done) | (rw [if_neg (by omega)])) ?_
              have rs : -1 ≤ rsM2 g law shoe year k z ∧ rsM2 g law shoe year k z < g 57 14 := by unfold rsM2; split <;> omega
              refine AW.invV5v (pc' := 311) dX12_race_308 mlX12_145 mX12_comes ly_57 rfl (c_X12_comes (dep := dep - 1) (by omega) (by constructor <;> omega) (by constructor <;> omega) (by constructor <;> omega) (by constructor <;> omega) (by constructor <;> omega)) ?_
              try simp only [Int.toNat_natCast, w58, w59, w63, w65, w13, w14, w15, w17, v58, v59, v63, v65, v13, v14, v15, v17, Int.toNat_natCast, ea, ec, es]
              refine AW.iinc7 (pc' := 314) dX12_race_311 (by decide) rfl ?_
              refine AW.goto (tgt := 109) dX12_race_314 ?_
              have hI3 := hI2.cm (a := (k : Int)) (b := course) (c := year) (d := rtM g law course year shoe day k z) (e := rsM2 g law shoe year k z) (by omega) (by omega) (by omega) qy rt (by omega)
              have n3 := cmM_n h150 (k : Int) course year (rtM g law course year shoe day k z) (rsM2 g law shoe year k z)
              exact AW.weak (ih (k + 1) (drF (drF (drF z))) (cmM h150 (k : Int) course year (rtM g law course year shoe day k z) (rsM2 g law shoe year k z)) (by omega) (e2.tr (cmM_ep h150 (k : Int) course year (rtM g law course year shoe day k z) (rsM2 g law shoe year k z))) hI3 (by omega) (fun x hx => kk x ⟨h150, s150, hx⟩)) (by (repeat' first | exact LSub.e | refine LSub.n ?_ | refine LSub.c ?_ ?_) <;> first | rfl | exact congrArg Sum.inl (by first | rfl | omega | (push_cast; omega)) | exact congrArg (fun z : Int => (vL z : AV)) (by first | rfl | omega | (push_cast; omega)))
            · refine AW.iload (pc' := 304) dX12_race_302 rfl ?_
              refine AW.goto (tgt := 308) dX12_race_304 ?_
              refine AW.top (b := rsM2 g law shoe year k z) (by unfold rsM2; first | (rw [if_pos (by omega)]; done) | (rw [if_neg (by omega)])) ?_
              have rs : -1 ≤ rsM2 g law shoe year k z ∧ rsM2 g law shoe year k z < g 57 14 := by unfold rsM2; split <;> omega
              refine AW.invV5v (pc' := 311) dX12_race_308 mlX12_145 mX12_comes ly_57 rfl (c_X12_comes (dep := dep - 1) (by omega) (by constructor <;> omega) (by constructor <;> omega) (by constructor <;> omega) (by constructor <;> omega) (by constructor <;> omega)) ?_
              try simp only [Int.toNat_natCast, w58, w59, w63, w65, w13, w14, w15, w17, v58, v59, v63, v65, v13, v14, v15, v17, Int.toNat_natCast, ea, ec, es]
              refine AW.iinc7 (pc' := 314) dX12_race_311 (by decide) rfl ?_
              refine AW.goto (tgt := 109) dX12_race_314 ?_
              have hI3 := hI2.cm (a := (k : Int)) (b := course) (c := year) (d := rtM g law course year shoe day k z) (e := rsM2 g law shoe year k z) (by omega) (by omega) (by omega) qy rt (by omega)
              have n3 := cmM_n h150 (k : Int) course year (rtM g law course year shoe day k z) (rsM2 g law shoe year k z)
              exact AW.weak (ih (k + 1) (drF (drF (drF z))) (cmM h150 (k : Int) course year (rtM g law course year shoe day k z) (rsM2 g law shoe year k z)) (by omega) (e2.tr (cmM_ep h150 (k : Int) course year (rtM g law course year shoe day k z) (rsM2 g law shoe year k z))) hI3 (by omega) (fun x hx => kk x ⟨h150, s150, hx⟩)) (by (repeat' first | exact LSub.e | refine LSub.n ?_ | refine LSub.c ?_ ?_) <;> first | rfl | exact congrArg Sum.inl (by first | rfl | omega | (push_cast; omega)) | exact congrArg (fun z : Int => (vL z : AV)) (by first | rfl | omega | (push_cast; omega)))
        · refine AW.bipush (pc' := 244) dX12_race_242 (by decide) ?_
          refine AW.goto (tgt := 263) dX12_race_244 ?_
          refine AW.top (b := rtM g law course year shoe day k z) (by unfold rtM tmM; first | (rw [if_pos (by omega)]; done) | (rw [if_neg (by omega), if_pos (by omega)]; done) | (rw [if_neg (by omega), if_neg (by omega)])) ?_
          have rt : 10 ≤ rtM g law course year shoe day k z ∧ rtM g law course year shoe day k z ≤ 29999 := tmM_in _
          refine AW.istore10 (pc' := 265) dX12_race_263 (by decide) rfl ?_
          refine AW.iload (pc' := 267) dX12_race_265 rfl ?_
          refine AW.ldc (v := 1103515245) (pc' := 269) dX12_race_267 kX12_252 ?_
          refine AW.imul (pc' := 270) dX12_race_269 ?_
          refine AW.sipush (pc' := 273) dX12_race_270 (by decide) ?_
          refine AW.iadd (pc' := 274) dX12_race_273 ?_
          refine AW.cong (b := drF (drF (drF z))) (wr_of _) ?_
          refine AW.istore6 (pc' := 276) dX12_race_274 (by decide) rfl ?_
          refine AW.aload_n (pc' := 277) dX12_race_276 rfl ?_
          refine AW.iload (pc' := 279) dX12_race_277 rfl ?_
          refine AW.iload_n (pc' := 280) dX12_race_279 rfl ?_
          refine AW.bipush (pc' := 282) dX12_race_280 (by decide) ?_
          refine AW.irem (pc' := 283) dX12_race_282 (by first | assumption | omega | (constructor <;> omega) | (simp only [Int.toNat_natCast]; omega) | exact b2_in _) (by first | assumption | omega | (constructor <;> omega) | (simp only [Int.toNat_natCast]; omega) | exact b2_in _) (by first | assumption | omega | (constructor <;> omega) | (simp only [Int.toNat_natCast]; omega) | exact b2_in _) ?_
          try simp only [ec]
          refine AW.iload (pc' := 285) dX12_race_283 rfl ?_
          refine AW.iload (pc' := 287) dX12_race_285 rfl ?_
          refine AW.iload (pc' := 289) dX12_race_287 rfl ?_
          refine AW.bipush (pc' := 291) dX12_race_289 (by decide) ?_
          refine AW.iushr (pc' := 292) dX12_race_291 ?_
          rw [show ((Int32.ofInt (drF (drF (drF z)))).toUInt32 >>> ((Int32.ofInt 8).toUInt32 &&& Int32.toUInt32 31)).toInt32.toInt = us8 (drF (drF (drF z))) from rfl]
          have ui17 : inI (us8 (drF (drF (drF z)))) := in32 _
          refine AW.bipush (pc' := 294) dX12_race_292 (by decide) ?_
          refine AW.irem (pc' := 295) dX12_race_294 (by first | assumption | omega | (constructor <;> omega) | (simp only [Int.toNat_natCast]; omega) | exact b2_in _) (by first | assumption | omega | (constructor <;> omega) | (simp only [Int.toNat_natCast]; omega) | exact b2_in _) (by first | assumption | omega | (constructor <;> omega) | (simp only [Int.toNat_natCast]; omega) | exact b2_in _) ?_
          rw [show (us8 (drF (drF (drF z)))).tmod 100 = ptF (drF (drF (drF z))) 100 from rfl]
          refine AW.aload_n (pc' := 296) dX12_race_295 rfl ?_
          refine AW.getI (pc' := 299) dX12_race_296 ly_57 fX12_49 rfl (fun r296 => ?_)
          try simp only [w58, w59, w63, w65, w13, w14, w15, w17, v58, v59, v63, v65, v13, v14, v15, v17, Int.toNat_natCast, ea, ec, es] at r296 ⊢
          refine AW.icmp_ge (tgt := 307) (pc' := 302) dX12_race_299 (by first | assumption | omega | (constructor <;> omega) | (simp only [Int.toNat_natCast]; omega) | exact b2_in _) (by first | assumption | omega | (constructor <;> omega) | (simp only [Int.toNat_natCast]; omega) | exact b2_in _) (fun c299 => ?_) (fun c299 => ?_)
          · refine AW.iconst (pc' := 308) dX12_race_307 ?_
            refine AW.top (b := rsM2 g law shoe year k z) (by unfold rsM2; first | (rw [if_pos (by omega)]; done) | (rw [if_neg (by omega)])) ?_
            have rs : -1 ≤ rsM2 g law shoe year k z ∧ rsM2 g law shoe year k z < g 57 14 := by unfold rsM2; split <;> omega
            refine AW.invV5v (pc' := 311) dX12_race_308 mlX12_145 mX12_comes ly_57 rfl (c_X12_comes (dep := dep - 1) (by omega) (by constructor <;> omega) (by constructor <;> omega) (by constructor <;> omega) (by constructor <;> omega) (by constructor <;> omega)) ?_
            try simp only [Int.toNat_natCast, w58, w59, w63, w65, w13, w14, w15, w17, v58, v59, v63, v65, v13, v14, v15, v17, Int.toNat_natCast, ea, ec, es]
            refine AW.iinc7 (pc' := 314) dX12_race_311 (by decide) rfl ?_
            refine AW.goto (tgt := 109) dX12_race_314 ?_
            have hI3 := hI2.cm (a := (k : Int)) (b := course) (c := year) (d := rtM g law course year shoe day k z) (e := rsM2 g law shoe year k z) (by omega) (by omega) (by omega) qy rt (by omega)
            have n3 := cmM_n h150 (k : Int) course year (rtM g law course year shoe day k z) (rsM2 g law shoe year k z)
            exact AW.weak (ih (k + 1) (drF (drF (drF z))) (cmM h150 (k : Int) course year (rtM g law course year shoe day k z) (rsM2 g law shoe year k z)) (by omega) (e2.tr (cmM_ep h150 (k : Int) course year (rtM g law course year shoe day k z) (rsM2 g law shoe year k z))) hI3 (by omega) (fun x hx => kk x ⟨h150, s150, hx⟩)) (by (repeat' first | exact LSub.e | refine LSub.n ?_ | refine LSub.c ?_ ?_) <;> first | rfl | exact congrArg Sum.inl (by first | rfl | omega | (push_cast; omega)) | exact congrArg (fun z : Int => (vL z : AV)) (by first | rfl | omega | (push_cast; omega)))
          · refine AW.iload (pc' := 304) dX12_race_302 rfl ?_
            refine AW.goto (tgt := 308) dX12_race_304 ?_
            refine AW.top (b := rsM2 g law shoe year k z) (by unfold rsM2; first | (rw [if_pos (by omega)]; done) | (rw [if_neg (by omega)])) ?_
            have rs : -1 ≤ rsM2 g law shoe year k z ∧ rsM2 g law shoe year k z < g 57 14 := by unfold rsM2; split <;> omega
            refine AW.invV5v (pc' := 311) dX12_race_308 mlX12_145 mX12_comes ly_57 rfl (c_X12_comes (dep := dep - 1) (by omega) (by constructor <;> omega) (by constructor <;> omega) (by constructor <;> omega) (by constructor <;> omega) (by constructor <;> omega)) ?_
            try simp only [Int.toNat_natCast, w58, w59, w63, w65, w13, w14, w15, w17, v58, v59, v63, v65, v13, v14, v15, v17, Int.toNat_natCast, ea, ec, es]
            refine AW.iinc7 (pc' := 314) dX12_race_311 (by decide) rfl ?_
            refine AW.goto (tgt := 109) dX12_race_314 ?_
            have hI3 := hI2.cm (a := (k : Int)) (b := course) (c := year) (d := rtM g law course year shoe day k z) (e := rsM2 g law shoe year k z) (by omega) (by omega) (by omega) qy rt (by omega)
            have n3 := cmM_n h150 (k : Int) course year (rtM g law course year shoe day k z) (rsM2 g law shoe year k z)
            exact AW.weak (ih (k + 1) (drF (drF (drF z))) (cmM h150 (k : Int) course year (rtM g law course year shoe day k z) (rsM2 g law shoe year k z)) (by omega) (e2.tr (cmM_ep h150 (k : Int) course year (rtM g law course year shoe day k z) (rsM2 g law shoe year k z))) hI3 (by omega) (fun x hx => kk x ⟨h150, s150, hx⟩)) (by (repeat' first | exact LSub.e | refine LSub.n ?_ | refine LSub.c ?_ ?_) <;> first | rfl | exact congrArg Sum.inl (by first | rfl | omega | (push_cast; omega)) | exact congrArg (fun z : Int => (vL z : AV)) (by first | rfl | omega | (push_cast; omega)))
set_option maxRecDepth 100000 in
set_option maxHeartbeats 4000000 in
theorem c_X12_race {K : KT} {dep : Nat} {h : Hp} {a b c d : Int} (hd : 5 ≤ dep) (hI : IMa h) (q0 : h 57 30 ≤ 4) (q1 : ∀ l : Nat, (l : Int) < h 57 30 → okL h l) (q3 : inI a) (q4 : inI b) (q5 : inI c) (q6 : inI d) : AMp K yX12_race cX12_race 11 (some .int) dep [vR 57, vI a, vI b, vI c, vI d] h (some (vI (if ¬ (rcOK (h 57 30) (h 57 15) (h 57 14) (h 64) a b c) then -1 else if 120 < h 57 16 + h 57 13 then -5 else h 57 13))) (fun x => ((¬ (rcOK (h 57 30) (h 57 15) (h 57 14) (h 64) a b c) ∨ 120 < h 57 16 + h 57 13) ∧ x = h) ∨ ((rcOK (h 57 30) (h 57 15) (h 57 14) (h 64) a b c) ∧ h 57 16 + h 57 13 ≤ 120 ∧ raceM h (a.tdiv 10) (a.tmod 10) (b.tdiv 10) (b.tmod 10) c (h 57 13).toNat 0 d h x)) := by
  refine AM.of (own := RX12) (ls := [some (vR 57), some (vI a), some (vI b), some (vI c), some (vI d), none, none, none, none, none, none]) rfl (by decide +kernel) (by exact Nat.le_of_ble_eq_true rfl) rfl (fun hO => ?_)
  have d1 : 0 ≤ a → 0 ≤ a.tdiv 10 ∧ a.tdiv 10 ≤ a := fun z => tdiv_le z (by decide)
  have d2 : 0 ≤ b → 0 ≤ b.tdiv 10 ∧ b.tdiv 10 ≤ b := fun z => tdiv_le z (by decide)
  have m1 := tmod_bounds (a := a) (M := 10) (by decide)
  have m2 := tmod_bounds (a := b) (M := 10) (by decide)
  have a1 : a < 0 → a.tdiv 10 ≤ 0 ∧ -2147483648 ≤ a.tdiv 10 := fun z => tdiv_10n z (by omega)
  have a2 : b < 0 → b.tdiv 10 ≤ 0 ∧ -2147483648 ≤ b.tdiv 10 := fun z => tdiv_10n z (by omega)
  have ia : inI (a.tdiv 10) := by
    by_cases z : a < 0
    · have := a1 z; constructor <;> omega
    · have := d1 (by omega); constructor <;> omega
  have ib : inI (b.tdiv 10) := by
    by_cases z : b < 0
    · have := a2 z; constructor <;> omega
    · have := d2 (by omega); constructor <;> omega
  have g1 := hI.1.1
  have g20 := hI.1.2.1
  have g6 := hI.2.1.2.1
  have g5 := hI.2.2.1.2.1
  have g7 := hI.2.2.2.1
  have g8 := hI.2.2.2.2.1
  refine AW.iload_n (pc' := 1) dX12_race_0 rfl ?_
  refine AW.if_lt (tgt := 77) (pc' := 4) dX12_race_1 (by first | assumption | omega | (constructor <;> omega) | (simp only [Int.toNat_natCast]; omega) | exact b2_in _) (fun c1 => ?_) (fun c1 => ?_)
  · refine AW.iconst (pc' := 78) dX12_race_77 ?_
    refine AW.iret dX12_race_78 ?_ ?_
    · refine congrArg (fun z : Int => (some (vI z) : Option AV)) ?_
      first | (rw [if_pos (by omega)]; done) | (rw [if_neg (by omega), if_pos (by omega)]; done) | (rw [if_neg (by omega), if_neg (by omega), w1])
    · first | exact Or.inl ⟨by omega, rfl⟩ | exact Or.inr ⟨ok, by omega, r2⟩
  · refine AW.iload_n (pc' := 5) dX12_race_4 rfl ?_
    refine AW.if_lt (tgt := 77) (pc' := 8) dX12_race_5 (by first | assumption | omega | (constructor <;> omega) | (simp only [Int.toNat_natCast]; omega) | exact b2_in _) (fun c5 => ?_) (fun c5 => ?_)
    · refine AW.iconst (pc' := 78) dX12_race_77 ?_
      refine AW.iret dX12_race_78 ?_ ?_
      · refine congrArg (fun z : Int => (some (vI z) : Option AV)) ?_
        first | (rw [if_pos (by omega)]; done) | (rw [if_neg (by omega), if_pos (by omega)]; done) | (rw [if_neg (by omega), if_neg (by omega), w1])
      · first | exact Or.inl ⟨by omega, rfl⟩ | exact Or.inr ⟨ok, by omega, r2⟩
    · refine AW.iload_n (pc' := 9) dX12_race_8 rfl ?_
      refine AW.bipush (pc' := 11) dX12_race_9 (by decide) ?_
      refine AW.idiv (pc' := 12) dX12_race_11 (by first | assumption | omega | (constructor <;> omega) | (simp only [Int.toNat_natCast]; omega) | exact b2_in _) (by first | assumption | omega | (constructor <;> omega) | (simp only [Int.toNat_natCast]; omega) | exact b2_in _) (by first | assumption | omega | (constructor <;> omega) | (simp only [Int.toNat_natCast]; omega) | exact b2_in _) ?_
      refine AW.aload_n (pc' := 13) dX12_race_12 rfl ?_
      refine AW.getI (pc' := 16) dX12_race_13 ly_57 fX12_223 rfl (fun r13 => ?_)
      refine AW.icmp_ge (tgt := 77) (pc' := 19) dX12_race_16 (by first | assumption | omega | (constructor <;> omega) | (simp only [Int.toNat_natCast]; omega) | exact b2_in _) (by first | assumption | omega | (constructor <;> omega) | (simp only [Int.toNat_natCast]; omega) | exact b2_in _) (fun c16 => ?_) (fun c16 => ?_)
      · refine AW.iconst (pc' := 78) dX12_race_77 ?_
        refine AW.iret dX12_race_78 ?_ ?_
        · refine congrArg (fun z : Int => (some (vI z) : Option AV)) ?_
          first | (rw [if_pos (by omega)]; done) | (rw [if_neg (by omega), if_pos (by omega)]; done) | (rw [if_neg (by omega), if_neg (by omega), w1])
        · first | exact Or.inl ⟨by omega, rfl⟩ | exact Or.inr ⟨ok, by omega, r2⟩
      · refine AW.aload_n (pc' := 20) dX12_race_19 rfl ?_
        refine AW.iload_n (pc' := 21) dX12_race_20 rfl ?_
        refine AW.bipush (pc' := 23) dX12_race_21 (by decide) ?_
        refine AW.irem (pc' := 24) dX12_race_23 (by first | assumption | omega | (constructor <;> omega) | (simp only [Int.toNat_natCast]; omega) | exact b2_in _) (by first | assumption | omega | (constructor <;> omega) | (simp only [Int.toNat_natCast]; omega) | exact b2_in _) (by first | assumption | omega | (constructor <;> omega) | (simp only [Int.toNat_natCast]; omega) | exact b2_in _) ?_
        refine AW.invV1 (pc' := 27) dX12_race_24 mlX12_135 mX12_isCourse ly_57 rfl (c_X12_isCourse (dep := dep - 1) (by first | assumption | omega | (constructor <;> omega) | (simp only [Int.toNat_natCast]; omega) | exact b2_in _)) ?_
        refine AW.ifb_eq (tgt := 77) (pc' := 30) dX12_race_27 (fun c27 => ?_) (fun c27 => ?_)
        · refine AW.iconst (pc' := 78) dX12_race_77 ?_
          refine AW.iret dX12_race_78 ?_ ?_
          · refine congrArg (fun z : Int => (some (vI z) : Option AV)) ?_
            first | (rw [if_pos (by omega)]; done) | (rw [if_neg (by omega), if_pos (by omega)]; done) | (rw [if_neg (by omega), if_neg (by omega), w1])
          · first | exact Or.inl ⟨by omega, rfl⟩ | exact Or.inr ⟨ok, by omega, r2⟩
        · refine AW.iload_n (pc' := 31) dX12_race_30 rfl ?_
          refine AW.bipush (pc' := 33) dX12_race_31 (by decide) ?_
          refine AW.idiv (pc' := 34) dX12_race_33 (by first | assumption | omega | (constructor <;> omega) | (simp only [Int.toNat_natCast]; omega) | exact b2_in _) (by first | assumption | omega | (constructor <;> omega) | (simp only [Int.toNat_natCast]; omega) | exact b2_in _) (by first | assumption | omega | (constructor <;> omega) | (simp only [Int.toNat_natCast]; omega) | exact b2_in _) ?_
          refine AW.bipush (pc' := 36) dX12_race_34 (by decide) ?_
          refine AW.icmp_gt (tgt := 77) (pc' := 39) dX12_race_36 (by first | assumption | omega | (constructor <;> omega) | (simp only [Int.toNat_natCast]; omega) | exact b2_in _) (by first | assumption | omega | (constructor <;> omega) | (simp only [Int.toNat_natCast]; omega) | exact b2_in _) (fun c36 => ?_) (fun c36 => ?_)
          · refine AW.iconst (pc' := 78) dX12_race_77 ?_
            refine AW.iret dX12_race_78 ?_ ?_
            · refine congrArg (fun z : Int => (some (vI z) : Option AV)) ?_
              first | (rw [if_pos (by omega)]; done) | (rw [if_neg (by omega), if_pos (by omega)]; done) | (rw [if_neg (by omega), if_neg (by omega), w1])
            · first | exact Or.inl ⟨by omega, rfl⟩ | exact Or.inr ⟨ok, by omega, r2⟩
          · refine AW.aload_n (pc' := 40) dX12_race_39 rfl ?_
            refine AW.iload_n (pc' := 41) dX12_race_40 rfl ?_
            refine AW.bipush (pc' := 43) dX12_race_41 (by decide) ?_
            refine AW.irem (pc' := 44) dX12_race_43 (by first | assumption | omega | (constructor <;> omega) | (simp only [Int.toNat_natCast]; omega) | exact b2_in _) (by first | assumption | omega | (constructor <;> omega) | (simp only [Int.toNat_natCast]; omega) | exact b2_in _) (by first | assumption | omega | (constructor <;> omega) | (simp only [Int.toNat_natCast]; omega) | exact b2_in _) ?_
            refine AW.invV1 (pc' := 47) dX12_race_44 mlX12_138 mX12_isShoe ly_57 rfl (c_X12_isShoe (dep := dep - 1) (by first | assumption | omega | (constructor <;> omega) | (simp only [Int.toNat_natCast]; omega) | exact b2_in _)) ?_
            refine AW.ifb_eq (tgt := 77) (pc' := 50) dX12_race_47 (fun c47 => ?_) (fun c47 => ?_)
            · refine AW.iconst (pc' := 78) dX12_race_77 ?_
              refine AW.iret dX12_race_78 ?_ ?_
              · refine congrArg (fun z : Int => (some (vI z) : Option AV)) ?_
                first | (rw [if_pos (by omega)]; done) | (rw [if_neg (by omega), if_pos (by omega)]; done) | (rw [if_neg (by omega), if_neg (by omega), w1])
              · first | exact Or.inl ⟨by omega, rfl⟩ | exact Or.inr ⟨ok, by omega, r2⟩
            · refine AW.aload_n (pc' := 51) dX12_race_50 rfl ?_
              refine AW.getR (pc' := 54) dX12_race_51 ly_57 fX12_28 rfl ?_
              refine AW.iload_n (pc' := 55) dX12_race_54 rfl ?_
              refine AW.bipush (pc' := 57) dX12_race_55 (by decide) ?_
              refine AW.irem (pc' := 58) dX12_race_57 (by first | assumption | omega | (constructor <;> omega) | (simp only [Int.toNat_natCast]; omega) | exact b2_in _) (by first | assumption | omega | (constructor <;> omega) | (simp only [Int.toNat_natCast]; omega) | exact b2_in _) (by first | assumption | omega | (constructor <;> omega) | (simp only [Int.toNat_natCast]; omega) | exact b2_in _) ?_
              first | refine AW.ialdN (pc' := 59) dX12_race_58 ly_64 (by first | assumption | omega | (constructor <;> omega) | (simp only [Int.toNat_natCast]; omega) | exact b2_in _) (by decide) (fun r58 => ?_) | refine AW.iald (pc' := 59) dX12_race_58 ly_64 (by first | assumption | omega | (constructor <;> omega) | (simp only [Int.toNat_natCast]; omega) | exact b2_in _) (by first | assumption | omega | (constructor <;> omega) | (simp only [Int.toNat_natCast]; omega) | exact b2_in _) (by decide) (fun r58 => ?_)
              refine AW.iload_n (pc' := 60) dX12_race_59 rfl ?_
              refine AW.bipush (pc' := 62) dX12_race_60 (by decide) ?_
              refine AW.idiv (pc' := 63) dX12_race_62 (by first | assumption | omega | (constructor <;> omega) | (simp only [Int.toNat_natCast]; omega) | exact b2_in _) (by first | assumption | omega | (constructor <;> omega) | (simp only [Int.toNat_natCast]; omega) | exact b2_in _) (by first | assumption | omega | (constructor <;> omega) | (simp only [Int.toNat_natCast]; omega) | exact b2_in _) ?_
              refine AW.icmp_gt (tgt := 77) (pc' := 66) dX12_race_63 (by first | assumption | omega | (constructor <;> omega) | (simp only [Int.toNat_natCast]; omega) | exact b2_in _) (by first | assumption | omega | (constructor <;> omega) | (simp only [Int.toNat_natCast]; omega) | exact b2_in _) (fun c63 => ?_) (fun c63 => ?_)
              · refine AW.iconst (pc' := 78) dX12_race_77 ?_
                refine AW.iret dX12_race_78 ?_ ?_
                · refine congrArg (fun z : Int => (some (vI z) : Option AV)) ?_
                  first | (rw [if_pos (by omega)]; done) | (rw [if_neg (by omega), if_pos (by omega)]; done) | (rw [if_neg (by omega), if_neg (by omega), w1])
                · first | exact Or.inl ⟨by omega, rfl⟩ | exact Or.inr ⟨ok, by omega, r2⟩
              · refine AW.iload_n (pc' := 67) dX12_race_66 rfl ?_
                refine AW.bipush (pc' := 69) dX12_race_67 (by decide) ?_
                refine AW.bipush (pc' := 71) dX12_race_69 (by decide) ?_
                refine AW.invS3 (pc' := 74) dX12_race_71 mlX12_117 mX12_isIn (c_X12_isIn (dep := dep - 1) (by first | assumption | omega | (constructor <;> omega) | (simp only [Int.toNat_natCast]; omega) | exact b2_in _) (by first | assumption | omega | (constructor <;> omega) | (simp only [Int.toNat_natCast]; omega) | exact b2_in _) (by first | assumption | omega | (constructor <;> omega) | (simp only [Int.toNat_natCast]; omega) | exact b2_in _)) ?_
                refine AW.ifb_ne (tgt := 79) (pc' := 77) dX12_race_74 (fun c74 => ?_) (fun c74 => ?_)
                · refine AW.aload_n (pc' := 80) dX12_race_79 rfl ?_
                  refine AW.getI (pc' := 83) dX12_race_80 ly_57 fX12_128 rfl (fun r80 => ?_)
                  refine AW.aload_n (pc' := 84) dX12_race_83 rfl ?_
                  refine AW.getI (pc' := 87) dX12_race_84 ly_57 fX12_122 rfl (fun r84 => ?_)
                  refine AW.iadd (pc' := 88) dX12_race_87 ?_
                  refine AW.bipush (pc' := 90) dX12_race_88 (by decide) ?_
                  refine AW.icmp_le (tgt := 96) (pc' := 93) dX12_race_90 (by first | assumption | omega | (constructor <;> omega) | (simp only [Int.toNat_natCast]; omega) | exact b2_in _) (by first | assumption | omega | (constructor <;> omega) | (simp only [Int.toNat_natCast]; omega) | exact b2_in _) (fun c90 => ?_) (fun c90 => ?_)
                  · refine AW.iload_n (pc' := 97) dX12_race_96 rfl ?_
                    refine AW.bipush (pc' := 99) dX12_race_97 (by decide) ?_
                    refine AW.idiv (pc' := 100) dX12_race_99 (by first | assumption | omega | (constructor <;> omega) | (simp only [Int.toNat_natCast]; omega) | exact b2_in _) (by first | assumption | omega | (constructor <;> omega) | (simp only [Int.toNat_natCast]; omega) | exact b2_in _) (by first | assumption | omega | (constructor <;> omega) | (simp only [Int.toNat_natCast]; omega) | exact b2_in _) ?_
                    refine AW.istore5 (pc' := 102) dX12_race_100 (by decide) rfl ?_
                    refine AW.iload (pc' := 104) dX12_race_102 rfl ?_
                    refine AW.istore6 (pc' := 106) dX12_race_104 (by decide) rfl ?_
                    refine AW.iconst (pc' := 107) dX12_race_106 ?_
                    refine AW.istore7 (pc' := 109) dX12_race_107 (by decide) rfl ?_
                    have ok : rcOK (h 57 30) (h 57 15) (h 57 14) (h 64) a b c := by omega
                    have q3 := q1 (a.tdiv 10).toNat (by omega)
                    rw [Int.toNat_of_nonneg (by omega)] at q3
                    refine AW.weak (lp_X12_race hI (a := a) (b := b) (sd := d) (law := a.tdiv 10) (course := a.tmod 10) (year := b.tdiv 10) (shoe := b.tmod 10) (day := c) rfl rfl rfl ⟨by assumption, by assumption⟩ (by omega) q3 (by omega) (by omega) (by omega) (by omega) hd (h 57 13).toNat 0 d h (by omega) EP.rf hI (by omega) (fun h2 r2 => ?_)) (by (repeat' first | exact LSub.e | refine LSub.n ?_ | refine LSub.c ?_ ?_) <;> first | rfl | exact congrArg Sum.inl (by first | rfl | omega | omega) | exact congrArg (fun z : Int => (vL z : AV)) (by first | rfl | omega | omega))
                    have w1 := raceM_ep _ _ _ _ _ r2 57 13 rfl
                    refine AW.aload_n (pc' := 318) dX12_race_317 rfl ?_
                    refine AW.getI (pc' := 321) dX12_race_318 ly_57 fX12_122 rfl (fun r318 => ?_)
                    refine AW.iret dX12_race_321 ?_ ?_
                    · refine congrArg (fun z : Int => (some (vI z) : Option AV)) ?_
                      first | (rw [if_pos (by omega)]; done) | (rw [if_neg (by omega), if_pos (by omega)]; done) | (rw [if_neg (by omega), if_neg (by omega), w1])
                    · first | exact Or.inl ⟨by omega, rfl⟩ | exact Or.inr ⟨ok, by omega, r2⟩
                  · refine AW.bipush (pc' := 95) dX12_race_93 (by decide) ?_
                    refine AW.iret dX12_race_95 ?_ ?_
                    · refine congrArg (fun z : Int => (some (vI z) : Option AV)) ?_
                      first | (rw [if_pos (by omega)]; done) | (rw [if_neg (by omega), if_pos (by omega)]; done) | (rw [if_neg (by omega), if_neg (by omega), w1])
                    · first | exact Or.inl ⟨by omega, rfl⟩ | exact Or.inr ⟨ok, by omega, r2⟩
                · refine AW.iconst (pc' := 78) dX12_race_77 ?_
                  refine AW.iret dX12_race_78 ?_ ?_
                  · refine congrArg (fun z : Int => (some (vI z) : Option AV)) ?_
                    first | (rw [if_pos (by omega)]; done) | (rw [if_neg (by omega), if_pos (by omega)]; done) | (rw [if_neg (by omega), if_neg (by omega), w1])
                  · first | exact Or.inl ⟨by omega, rfl⟩ | exact Or.inr ⟨ok, by omega, r2⟩
