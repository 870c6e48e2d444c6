theorem nmF_eps {g h : Hp} (e : EP mscr g h) : nmF h = nmF g := by
  funext r y s d t
  unfold nmF
  rw [e.row 58 (fun _ => rfl), e.row 59 (fun _ => rfl), e.row 60 (fun _ => rfl), e.row 61 (fun _ => rfl), e.row 62 (fun _ => rfl), e.row 63 (fun _ => rfl), e 57 13 rfl]
set_option maxRecDepth 100000 in
set_option maxHeartbeats 4000000 in
theorem lp_X12_workedOut {K : KT}  {dep : Nat} {g : Hp} {l a b c d : Int} {to : Nat} (hI : IMa g) (ql : 0 ≤ l ∧ l < 4) (qa : 0 ≤ a ∧ a < g 57 13) (qy : 0 ≤ b ∧ b ≤ 99) (qs : 0 ≤ c ∧ c < g 57 14) (qd : inI d) (hto : g 77 (l + 1).toNat = (to : Int)) (hb : to ≤ 600) (hd : 4 ≤ dep) : ∀ (R D : List Int) (cn : Bool) (k : Nat) (h1 : Hp), k + R.length = to → (∀ i : Nat, i < R.length → g 76 (k + i) = R.getD i 0) → WM g D h1 → okT R D.length → D.length + R.length ≤ 125 → AW K (XP K (some (vI (evF (nmF g a.toNat b c.toNat d) R D cn))) (fun x => EP mscr g x ∧ inI (evF (nmF g a.toNat b c.toNat d) R D cn))) RX12 cX12_workedOut 9 (some .int) dep 16 [some (vR 57), some (vI (l)), some (vI (a)), some (vI (b)), some (vI (c)), some (vI (d)), some (vI ((if cn = true then 1 else 0))), some (vI ((k : Int))), none] [] h1 := by
  intro R
  induction R with
  | nil =>
    intro D cn k h1 hk hR ms ok hl
    have e77 : h1 77 = g 77 := ms.1 77 rfl
    simp only [List.length_nil] at hk
    refine AW.iload (pc' := 18) dX12_workedOut_16 rfl ?_
    refine AW.aload_n (pc' := 19) dX12_workedOut_18 rfl ?_
    refine AW.getR (pc' := 22) dX12_workedOut_19 ly_57 fX12_71 rfl ?_
    refine AW.iload_n (pc' := 23) dX12_workedOut_22 rfl ?_
    refine AW.iconst (pc' := 24) dX12_workedOut_23 ?_
    refine AW.iadd (pc' := 25) dX12_workedOut_24 ?_
    first | refine AW.ialdN (pc' := 26) dX12_workedOut_25 ly_77 (by first | assumption | omega | (constructor <;> omega) | (simp only [Int.toNat_natCast]; omega) | exact b2_in _) (by decide) (fun r25 => ?_) | refine AW.iald (pc' := 26) dX12_workedOut_25 ly_77 (by first | assumption | omega | (constructor <;> omega) | (simp only [Int.toNat_natCast]; omega) | exact b2_in _) (by first | assumption | omega | (constructor <;> omega) | (simp only [Int.toNat_natCast]; omega) | exact b2_in _) (by decide) (fun r25 => ?_)
    try simp only [e77, hto] at r25 ⊢
    refine AW.icmp_ge (tgt := 320) (pc' := 29) dX12_workedOut_26 (by first | assumption | omega | (constructor <;> omega) | (simp only [Int.toNat_natCast]; omega) | exact b2_in _) (by first | assumption | omega | (constructor <;> omega) | (simp only [Int.toNat_natCast]; omega) | exact b2_in _) (fun c26 => ?_) (fun c26 => ?_)
    · refine AW.iconst (pc' := 321) dX12_workedOut_320 ?_
      refine AW.iret dX12_workedOut_321 ?_ ?_
      · rfl
      · exact ⟨ms.ep, inI_0⟩
    · omega
  | cons t R ih =>
    intro D cn k h1 hk hR ms ok hl
    have e76 : h1 76 = g 76 := ms.1 76 rfl
    have e77 : h1 77 = g 77 := ms.1 77 rfl
    have hI1 := hI.ep ms.ep
    have e13 : h1 57 13 = g 57 13 := ms.ep 57 13 rfl
    have e14 : h1 57 14 = g 57 14 := ms.ep 57 14 rfl
    have a3 := ms.2.2.1
    have ht : g 76 k = t := by have := hR 0 (by simp); simpa using this
    have hR2 : ∀ i : Nat, i < R.length → g 76 (k + 1 + i) = R.getD i 0 := fun i hi => by have := hR (i + 1) (by simp; omega); rw [show k + 1 + i = k + (i + 1) by omega, this]; rfl
    simp only [List.length_cons] at hl hk
    unfold okT at ok
    have ei : inI (if cn = true then (1 : Int) else 0) := by cases cn <;> decide
    have ek := e13
    have ek2 := e13
    have tp := e13
    have tq := e13
    refine AW.iload (pc' := 18) dX12_workedOut_16 rfl ?_
    refine AW.aload_n (pc' := 19) dX12_workedOut_18 rfl ?_
    refine AW.getR (pc' := 22) dX12_workedOut_19 ly_57 fX12_71 rfl ?_
    refine AW.iload_n (pc' := 23) dX12_workedOut_22 rfl ?_
    refine AW.iconst (pc' := 24) dX12_workedOut_23 ?_
    refine AW.iadd (pc' := 25) dX12_workedOut_24 ?_
    first | refine AW.ialdN (pc' := 26) dX12_workedOut_25 ly_77 (by first | assumption | omega | (constructor <;> omega) | (simp only [Int.toNat_natCast]; omega) | exact b2_in _) (by decide) (fun r25 => ?_) | refine AW.iald (pc' := 26) dX12_workedOut_25 ly_77 (by first | assumption | omega | (constructor <;> omega) | (simp only [Int.toNat_natCast]; omega) | exact b2_in _) (by first | assumption | omega | (constructor <;> omega) | (simp only [Int.toNat_natCast]; omega) | exact b2_in _) (by decide) (fun r25 => ?_)
    try simp only [e76, e77, hto, ht, Int.toNat_natCast, ek, ek2, tp, tq] at r25 ⊢
    refine AW.icmp_ge (tgt := 320) (pc' := 29) dX12_workedOut_26 (by first | assumption | omega | (constructor <;> omega) | (simp only [Int.toNat_natCast]; omega) | exact b2_in _) (by first | assumption | omega | (constructor <;> omega) | (simp only [Int.toNat_natCast]; omega) | exact b2_in _) (fun c26 => ?_) (fun c26 => ?_)
    · omega
    · refine AW.aload_n (pc' := 30) dX12_workedOut_29 rfl ?_
      refine AW.getR (pc' := 33) dX12_workedOut_30 ly_57 fX12_68 rfl ?_
      refine AW.iload (pc' := 35) dX12_workedOut_33 rfl ?_
      first | refine AW.ialdN (pc' := 36) dX12_workedOut_35 ly_76 (by first | assumption | omega | (constructor <;> omega) | (simp only [Int.toNat_natCast]; omega) | exact b2_in _) (by decide) (fun r35 => ?_) | refine AW.iald (pc' := 36) dX12_workedOut_35 ly_76 (by first | assumption | omega | (constructor <;> omega) | (simp only [Int.toNat_natCast]; omega) | exact b2_in _) (by first | assumption | omega | (constructor <;> omega) | (simp only [Int.toNat_natCast]; omega) | exact b2_in _) (by decide) (fun r35 => ?_)
      try simp only [e76, e77, hto, ht, Int.toNat_natCast, ek, ek2, tp, tq] at r35 ⊢
      refine AW.istore8 (pc' := 38) dX12_workedOut_36 (by decide) rfl ?_
      refine AW.iload (pc' := 40) dX12_workedOut_38 rfl ?_
      refine AW.sipush (pc' := 43) dX12_workedOut_40 (by decide) ?_
      refine AW.icmp_lt (tgt := 74) (pc' := 46) dX12_workedOut_43 (by first | assumption | omega | (constructor <;> omega) | (simp only [Int.toNat_natCast]; omega) | exact b2_in _) (by first | assumption | omega | (constructor <;> omega) | (simp only [Int.toNat_natCast]; omega) | exact b2_in _) (fun c43 => ?_) (fun c43 => ?_)
      · refine AW.iload (pc' := 76) dX12_workedOut_74 rfl ?_
        refine AW.sipush (pc' := 79) dX12_workedOut_76 (by decide) ?_
        
        refine AW.icmp_ne (tgt := 114) (pc' := 82) dX12_workedOut_79 (by first | assumption | omega | (constructor <;> omega) | (simp only [Int.toNat_natCast]; omega) | exact b2_in _) (by first | assumption | omega | (constructor <;> omega) | (simp only [Int.toNat_natCast]; omega) | exact b2_in _) (fun c79 => ?_) (fun c79 => ?_)
        · refine AW.iload (pc' := 116) dX12_workedOut_114 rfl ?_
          refine AW.sipush (pc' := 119) dX12_workedOut_116 (by decide) ?_
          refine AW.icmp_ne (tgt := 153) (pc' := 122) dX12_workedOut_119 (by first | assumption | omega | (constructor <;> omega) | (simp only [Int.toNat_natCast]; omega) | exact b2_in _) (by first | assumption | omega | (constructor <;> omega) | (simp only [Int.toNat_natCast]; omega) | exact b2_in _) (fun c119 => ?_) (fun c119 => ?_)
          · refine AW.iload (pc' := 155) dX12_workedOut_153 rfl ?_
            refine AW.bipush (pc' := 157) dX12_workedOut_155 (by decide) ?_
            refine AW.icmp_ne (tgt := 193) (pc' := 160) dX12_workedOut_157 (by first | assumption | omega | (constructor <;> omega) | (simp only [Int.toNat_natCast]; omega) | exact b2_in _) (by first | assumption | omega | (constructor <;> omega) | (simp only [Int.toNat_natCast]; omega) | exact b2_in _) (fun c157 => ?_) (fun c157 => ?_)
            · refine AW.iload (pc' := 195) dX12_workedOut_193 rfl ?_
              refine AW.bipush (pc' := 197) dX12_workedOut_195 (by decide) ?_
              refine AW.icmp_ne (tgt := 226) (pc' := 200) dX12_workedOut_197 (by first | assumption | omega | (constructor <;> omega) | (simp only [Int.toNat_natCast]; omega) | exact b2_in _) (by first | assumption | omega | (constructor <;> omega) | (simp only [Int.toNat_natCast]; omega) | exact b2_in _) (fun c197 => ?_) (fun c197 => ?_)
              · refine AW.iload (pc' := 228) dX12_workedOut_226 rfl ?_
                refine AW.invS1 (pc' := 231) dX12_workedOut_228 mlX12_206 mX12_isName (c_X12_isName (dep := dep - 1) (by first | assumption | omega | (constructor <;> omega) | (simp only [Int.toNat_natCast]; omega) | exact b2_in _)) ?_
                try simp only [Int.toNat_natCast, e76, e77, hto, ht, Int.toNat_natCast, ek, ek2, tp, tq]
                refine AW.ifb_eq (tgt := 268) (pc' := 234) dX12_workedOut_231 (fun c231 => ?_) (fun c231 => ?_)
                · rw [if_neg (Int.not_le.mpr c43), if_neg (fun y => y.elim c79 c119), if_neg (fun y => y.elim c157 c197), if_neg c231] at ok
                  have okop : Hid (opP t) := ok.1
                  have okb := ok.2
                  clear ok
                  obtain ⟨v, D3, hD⟩ : ∃ v D3, D = v :: D3 := by
                    cases D with
                    | nil => exact absurd okb.1 (by decide)
                    | cons v D3 => exact ⟨v, D3, rfl⟩
                  subst hD
                  obtain ⟨u, D2, hD⟩ : ∃ u D2, D3 = u :: D2 := by
                    cases D3 with
                    | nil => exact absurd okb.1 (by show ¬ 2 ≤ 1; decide)
                    | cons u D2 => exact ⟨u, D2, rfl⟩
                  subst hD
                  obtain ⟨m3, l3, tp⟩ := ms.pop
                  obtain ⟨m4, l4, tq⟩ := m3.pop
                  have ok2 := okb.2
                  simp only [List.length_cons] at ok2 hl a3 l3 tp
                  rw [hset_other 80 (by decide)] at tq
                  have ek : (h1 57 38 - 1).toNat = D2.length + 1 := by omega
                  have ek2 : (h1 57 38 - 1 - 1).toNat = D2.length := by omega
                  have kz : evF (nmF g a.toNat b c.toNat d) (t :: R) (v :: u :: D2) cn = evF (nmF g a.toNat b c.toNat d) R (twF t u v :: D2) cn := by
                    conv => lhs; unfold evF
                    rw [if_neg (Int.not_le.mpr c43), if_neg c79, if_neg c119, if_neg c157, if_neg c197, if_neg c231]
                    rfl
                  clear c231
                  have km := m3.top (twF t u v) (i := (h1 57 38 - 1 - 1).toNat) ek2
                  have ko := ok2
                  refine AW.aload_n (pc' := 269) dX12_workedOut_268 rfl ?_
                  refine AW.dup (pc' := 270) dX12_workedOut_269 rfl ?_
                  refine AW.getI (pc' := 273) dX12_workedOut_270 ly_57 fX12_241 rfl (fun r270 => ?_)
                  try simp only [e76, e77, hto, ht, Int.toNat_natCast, ek, ek2, tp, tq] at r270 ⊢
                  refine AW.iconst (pc' := 274) dX12_workedOut_273 ?_
                  refine AW.isub (pc' := 275) dX12_workedOut_274 ?_
                  refine AW.putI (pc' := 278) dX12_workedOut_275 ly_57 pX12_241 rfl (by first | assumption | omega | (constructor <;> omega) | (simp only [Int.toNat_natCast]; omega) | exact b2_in _) ?_
                  refine AW.aload_n (pc' := 279) dX12_workedOut_278 rfl ?_
                  refine AW.getR (pc' := 282) dX12_workedOut_279 ly_57 fX12_80 rfl ?_
                  refine AW.aload_n (pc' := 283) dX12_workedOut_282 rfl ?_
                  refine AW.getI (pc' := 286) dX12_workedOut_283 ly_57 fX12_241 rfl (fun r283 => ?_)
                  try simp only [e76, e77, hto, ht, Int.toNat_natCast, ek, ek2, tp, tq] at r283 ⊢
                  try simp only [hset_app, Nat.reduceEqDiff, false_and, and_false, true_and, and_true, reduceIte] at r283 ⊢
                  refine AW.iconst (pc' := 287) dX12_workedOut_286 ?_
                  refine AW.isub (pc' := 288) dX12_workedOut_287 ?_
                  refine AW.iload (pc' := 290) dX12_workedOut_288 rfl ?_
                  refine AW.aload_n (pc' := 291) dX12_workedOut_290 rfl ?_
                  refine AW.getR (pc' := 294) dX12_workedOut_291 ly_57 fX12_80 rfl ?_
                  refine AW.aload_n (pc' := 295) dX12_workedOut_294 rfl ?_
                  refine AW.getI (pc' := 298) dX12_workedOut_295 ly_57 fX12_241 rfl (fun r295 => ?_)
                  try simp only [e76, e77, hto, ht, Int.toNat_natCast, ek, ek2, tp, tq] at r295 ⊢
                  try simp only [hset_app, Nat.reduceEqDiff, false_and, and_false, true_and, and_true, reduceIte] at r295 ⊢
                  refine AW.iconst (pc' := 299) dX12_workedOut_298 ?_
                  refine AW.isub (pc' := 300) dX12_workedOut_299 ?_
                  first | refine AW.ialdN (pc' := 301) dX12_workedOut_300 ly_80 (by first | assumption | omega | (constructor <;> omega) | (simp only [Int.toNat_natCast]; omega) | exact b2_in _) (by decide) (fun r300 => ?_) | refine AW.iald (pc' := 301) dX12_workedOut_300 ly_80 (by first | assumption | omega | (constructor <;> omega) | (simp only [Int.toNat_natCast]; omega) | exact b2_in _) (by first | assumption | omega | (constructor <;> omega) | (simp only [Int.toNat_natCast]; omega) | exact b2_in _) (by decide) (fun r300 => ?_)
                  try simp only [e76, e77, hto, ht, Int.toNat_natCast, ek, ek2, tp, tq] at r300 ⊢
                  try simp only [hset_app, Nat.reduceEqDiff, false_and, and_false, true_and, and_true, reduceIte] at r300 ⊢
                  simp only [tq] at r300 ⊢
                  refine AW.aload_n (pc' := 302) dX12_workedOut_301 rfl ?_
                  refine AW.getR (pc' := 305) dX12_workedOut_302 ly_57 fX12_80 rfl ?_
                  refine AW.aload_n (pc' := 306) dX12_workedOut_305 rfl ?_
                  refine AW.getI (pc' := 309) dX12_workedOut_306 ly_57 fX12_241 rfl (fun r306 => ?_)
                  try simp only [e76, e77, hto, ht, Int.toNat_natCast, ek, ek2, tp, tq] at r306 ⊢
                  try simp only [hset_app, Nat.reduceEqDiff, false_and, and_false, true_and, and_true, reduceIte] at r306 ⊢
                  first | refine AW.ialdN (pc' := 310) dX12_workedOut_309 ly_80 (by first | assumption | omega | (constructor <;> omega) | (simp only [Int.toNat_natCast]; omega) | exact b2_in _) (by decide) (fun r309 => ?_) | refine AW.iald (pc' := 310) dX12_workedOut_309 ly_80 (by first | assumption | omega | (constructor <;> omega) | (simp only [Int.toNat_natCast]; omega) | exact b2_in _) (by first | assumption | omega | (constructor <;> omega) | (simp only [Int.toNat_natCast]; omega) | exact b2_in _) (by decide) (fun r309 => ?_)
                  try simp only [e76, e77, hto, ht, Int.toNat_natCast, ek, ek2, tp, tq] at r309 ⊢
                  try simp only [hset_app, Nat.reduceEqDiff, false_and, and_false, true_and, and_true, reduceIte] at r309 ⊢
                  simp only [tp] at r309 ⊢
                  refine AW.invS3 (pc' := 313) dX12_workedOut_310 mlX12_248 mX12_two (c_X12_two (dep := dep - 1) (t := t) (a := u) (b := v) okop r35 r300 r309) ?_
                  try simp only [Int.toNat_natCast, e76, e77, hto, ht, Int.toNat_natCast, ek, ek2, tp, tq]
                  have ti := twF_in t u v
                  first | refine AW.iastN (pc' := 314) dX12_workedOut_313 ly_80 (by first | assumption | omega | (constructor <;> omega) | (simp only [Int.toNat_natCast]; omega) | exact b2_in _) (by decide) (by first | assumption | omega | (constructor <;> omega) | (simp only [Int.toNat_natCast]; omega) | exact b2_in _) ?_ | refine AW.iast (pc' := 314) dX12_workedOut_313 ly_80 (by first | assumption | omega | (constructor <;> omega) | (simp only [Int.toNat_natCast]; omega) | exact b2_in _) (by first | assumption | omega | (constructor <;> omega) | (simp only [Int.toNat_natCast]; omega) | exact b2_in _) (by decide) (by first | assumption | omega | (constructor <;> omega) | (simp only [Int.toNat_natCast]; omega) | exact b2_in _) ?_
                  skip
                  refine AW.iinc7 (pc' := 317) dX12_workedOut_314 (by decide) rfl ?_
                  refine AW.goto (tgt := 16) dX12_workedOut_317 ?_
                  rw [kz]
                  exact AW.weak (ih _ _ (k + 1) _ (by omega) hR2 km ko (by first | omega | (simp only [List.length_cons]; omega))) (by (repeat' first | exact LSub.e | refine LSub.n ?_ | refine LSub.c ?_ ?_) <;> first | rfl | exact congrArg Sum.inl (by first | rfl | omega | first | (push_cast; omega) | rfl | (rw [if_pos (by simp; omega)]) | (rw [if_neg (by simp; omega)])) | exact congrArg (fun z : Int => (vL z : AV)) (by first | rfl | omega | first | (push_cast; omega) | rfl | (rw [if_pos (by simp; omega)]) | (rw [if_neg (by simp; omega)])))
                · rw [if_neg (Int.not_le.mpr c43), if_neg (fun y => y.elim c79 c119), if_neg (fun y => y.elim c157 c197), if_pos c231] at ok
                  have qn : Hid (nmP t) := c231
                  clear c231
                  refine AW.aload_n (pc' := 235) dX12_workedOut_234 rfl ?_
                  refine AW.getR (pc' := 238) dX12_workedOut_235 ly_57 fX12_80 rfl ?_
                  refine AW.aload_n (pc' := 239) dX12_workedOut_238 rfl ?_
                  refine AW.getI (pc' := 242) dX12_workedOut_239 ly_57 fX12_241 rfl (fun r239 => ?_)
                  try simp only [e76, e77, hto, ht, Int.toNat_natCast, ek, ek2, tp, tq] at r239 ⊢
                  refine AW.aload_n (pc' := 243) dX12_workedOut_242 rfl ?_
                  refine AW.iload (pc' := 245) dX12_workedOut_243 rfl ?_
                  refine AW.iload_n (pc' := 246) dX12_workedOut_245 rfl ?_
                  refine AW.iload_n (pc' := 247) dX12_workedOut_246 rfl ?_
                  refine AW.iload (pc' := 249) dX12_workedOut_247 rfl ?_
                  refine AW.iload (pc' := 251) dX12_workedOut_249 rfl ?_
                  refine AW.invV5 (pc' := 254) dX12_workedOut_251 mlX12_244 mX12_named ly_57 rfl (c_X12_named (dep := dep - 1) (by omega) hI1 (by omega) (by omega) (by omega) (by omega) (by omega)) ?_
                  try simp only [Int.toNat_natCast, e76, e77, hto, ht, Int.toNat_natCast, ek, ek2, tp, tq]
                  rw [nmF_eps ms.ep]
                  have ni : inI (nmF g a.toNat b c.toNat d t) := by
                    have q13 := hI.1.2.1
                    have fi := fThen_in hI.1 (r := a.toNat) (by omega) qy.1 qy.2
                    have d1 := tdiv_le (a := fThen (g 58) (g 59) a.toNat b) (b := 10) (by omega) (by decide)
                    have lf := lessF_in (n := g 57 13) (by omega) (g 58) (g 59) a.toNat b
                    have p1 := hI.1.2.2 a.toNat (by omega)
                    have p2 := hI.2.1.2.2 c.toNat (by omega)
                    unfold nmF
                    exact inI_ite (by constructor <;> omega) (inI_ite (by constructor <;> omega) (inI_ite (by constructor <;> omega) (inI_ite (by constructor <;> omega) (inI_ite (by constructor <;> omega) (inI_ite (by constructor <;> omega) (inI_ite (by constructor <;> omega) (inI_ite (by constructor <;> omega) qd)))))))
                  first | refine AW.iastN (pc' := 255) dX12_workedOut_254 ly_80 (by first | assumption | omega | (constructor <;> omega) | (simp only [Int.toNat_natCast]; omega) | exact b2_in _) (by decide) (by first | assumption | omega | (constructor <;> omega) | (simp only [Int.toNat_natCast]; omega) | exact b2_in _) ?_ | refine AW.iast (pc' := 255) dX12_workedOut_254 ly_80 (by first | assumption | omega | (constructor <;> omega) | (simp only [Int.toNat_natCast]; omega) | exact b2_in _) (by first | assumption | omega | (constructor <;> omega) | (simp only [Int.toNat_natCast]; omega) | exact b2_in _) (by decide) (by first | assumption | omega | (constructor <;> omega) | (simp only [Int.toNat_natCast]; omega) | exact b2_in _) ?_
                  refine AW.aload_n (pc' := 256) dX12_workedOut_255 rfl ?_
                  refine AW.dup (pc' := 257) dX12_workedOut_256 rfl ?_
                  refine AW.getI (pc' := 260) dX12_workedOut_257 ly_57 fX12_241 rfl (fun r257 => ?_)
                  try simp only [e76, e77, hto, ht, Int.toNat_natCast, ek, ek2, tp, tq] at r257 ⊢
                  try simp only [hset_app, Nat.reduceEqDiff, false_and, and_false, true_and, and_true, reduceIte] at r257 ⊢
                  refine AW.iconst (pc' := 261) dX12_workedOut_260 ?_
                  refine AW.iadd (pc' := 262) dX12_workedOut_261 ?_
                  refine AW.putI (pc' := 265) dX12_workedOut_262 ly_57 pX12_241 rfl (by first | assumption | omega | (constructor <;> omega) | (simp only [Int.toNat_natCast]; omega) | exact b2_in _) ?_
                  have kz : evF (nmF g a.toNat b c.toNat d) (t :: R) D cn = evF (nmF g a.toNat b c.toNat d) R (nmF g a.toNat b c.toNat d t :: D) cn := by
                    conv => lhs; unfold evF
                    rw [if_neg (Int.not_le.mpr c43), if_neg c79, if_neg c119, if_neg c157, if_neg c197, if_pos (show nmP t from qn)]
                  have km := ms.push (nmF g a.toNat b c.toNat d t)
                  have ko := ok
                  refine AW.goto (tgt := 314) dX12_workedOut_265 ?_
                  skip
                  refine AW.iinc7 (pc' := 317) dX12_workedOut_314 (by decide) rfl ?_
                  refine AW.goto (tgt := 16) dX12_workedOut_317 ?_
                  rw [kz]
                  exact AW.weak (ih _ _ (k + 1) _ (by omega) hR2 km ko (by first | omega | (simp only [List.length_cons]; omega))) (by (repeat' first | exact LSub.e | refine LSub.n ?_ | refine LSub.c ?_ ?_) <;> first | rfl | exact congrArg Sum.inl (by first | rfl | omega | first | (push_cast; omega) | rfl | (rw [if_pos (by simp; omega)]) | (rw [if_neg (by simp; omega)])) | exact congrArg (fun z : Int => (vL z : AV)) (by first | rfl | omega | first | (push_cast; omega) | rfl | (rw [if_pos (by simp; omega)]) | (rw [if_neg (by simp; omega)])))
              · have p197 : t = 95 := by omega
                rw [if_neg (Int.not_le.mpr c43), if_neg (fun y => y.elim c79 c119), if_pos (Or.inr p197)] at ok
                have ok1 := ok.1
                have ok2 := ok.2
                obtain ⟨v, D2, hD⟩ : ∃ v D2, D = v :: D2 := by
                  cases D with
                  | nil => exact absurd ok1 (by decide)
                  | cons v D2 => exact ⟨v, D2, rfl⟩
                subst hD
                obtain ⟨m3, l3, tp⟩ := ms.pop
                simp only [List.length_cons] at ok2 hl a3
                have ek : (h1 57 38 - 1).toNat = D2.length := by omega
                refine AW.aload_n (pc' := 201) dX12_workedOut_200 rfl ?_
                refine AW.getR (pc' := 204) dX12_workedOut_201 ly_57 fX12_80 rfl ?_
                refine AW.aload_n (pc' := 205) dX12_workedOut_204 rfl ?_
                refine AW.getI (pc' := 208) dX12_workedOut_205 ly_57 fX12_241 rfl (fun r205 => ?_)
                try simp only [e76, e77, hto, ht, Int.toNat_natCast, ek, ek2, tp, tq] at r205 ⊢
                refine AW.iconst (pc' := 209) dX12_workedOut_208 ?_
                refine AW.isub (pc' := 210) dX12_workedOut_209 ?_
                refine AW.aload_n (pc' := 211) dX12_workedOut_210 rfl ?_
                refine AW.getR (pc' := 214) dX12_workedOut_211 ly_57 fX12_80 rfl ?_
                refine AW.aload_n (pc' := 215) dX12_workedOut_214 rfl ?_
                refine AW.getI (pc' := 218) dX12_workedOut_215 ly_57 fX12_241 rfl (fun r215 => ?_)
                try simp only [e76, e77, hto, ht, Int.toNat_natCast, ek, ek2, tp, tq] at r215 ⊢
                refine AW.iconst (pc' := 219) dX12_workedOut_218 ?_
                refine AW.isub (pc' := 220) dX12_workedOut_219 ?_
                first | refine AW.ialdN (pc' := 221) dX12_workedOut_220 ly_80 (by first | assumption | omega | (constructor <;> omega) | (simp only [Int.toNat_natCast]; omega) | exact b2_in _) (by decide) (fun r220 => ?_) | refine AW.iald (pc' := 221) dX12_workedOut_220 ly_80 (by first | assumption | omega | (constructor <;> omega) | (simp only [Int.toNat_natCast]; omega) | exact b2_in _) (by first | assumption | omega | (constructor <;> omega) | (simp only [Int.toNat_natCast]; omega) | exact b2_in _) (by decide) (fun r220 => ?_)
                try simp only [e76, e77, hto, ht, Int.toNat_natCast, ek, ek2, tp, tq] at r220 ⊢
                refine AW.ineg (pc' := 222) dX12_workedOut_221 ?_
                refine AW.cong (b := wr (-v)) (wr_of _) ?_
                have wi := wr_in (-v)
                first | refine AW.iastN (pc' := 223) dX12_workedOut_222 ly_80 (by first | assumption | omega | (constructor <;> omega) | (simp only [Int.toNat_natCast]; omega) | exact b2_in _) (by decide) (by first | assumption | omega | (constructor <;> omega) | (simp only [Int.toNat_natCast]; omega) | exact b2_in _) ?_ | refine AW.iast (pc' := 223) dX12_workedOut_222 ly_80 (by first | assumption | omega | (constructor <;> omega) | (simp only [Int.toNat_natCast]; omega) | exact b2_in _) (by first | assumption | omega | (constructor <;> omega) | (simp only [Int.toNat_natCast]; omega) | exact b2_in _) (by decide) (by first | assumption | omega | (constructor <;> omega) | (simp only [Int.toNat_natCast]; omega) | exact b2_in _) ?_
                have kz : evF (nmF g a.toNat b c.toNat d) (t :: R) (v :: D2) cn = evF (nmF g a.toNat b c.toNat d) R (wr (-v) :: D2) cn := by
                  conv => lhs; unfold evF
                  rw [if_neg (Int.not_le.mpr c43), if_neg c79, if_neg c119, if_neg c157, if_pos p197]
                  rfl
                have km := ms.top (wr (-v)) (i := (h1 57 38 - 1).toNat) ek
                have ko := ok2
                refine AW.goto (tgt := 314) dX12_workedOut_223 ?_
                skip
                refine AW.iinc7 (pc' := 317) dX12_workedOut_314 (by decide) rfl ?_
                refine AW.goto (tgt := 16) dX12_workedOut_317 ?_
                rw [kz]
                exact AW.weak (ih _ _ (k + 1) _ (by omega) hR2 km ko (by first | omega | (simp only [List.length_cons]; omega))) (by (repeat' first | exact LSub.e | refine LSub.n ?_ | refine LSub.c ?_ ?_) <;> first | rfl | exact congrArg Sum.inl (by first | rfl | omega | first | (push_cast; omega) | rfl | (rw [if_pos (by simp; omega)]) | (rw [if_neg (by simp; omega)])) | exact congrArg (fun z : Int => (vL z : AV)) (by first | rfl | omega | first | (push_cast; omega) | rfl | (rw [if_pos (by simp; omega)]) | (rw [if_neg (by simp; omega)])))
            · have p157 : t = 33 := by omega
              rw [if_neg (Int.not_le.mpr c43), if_neg (fun y => y.elim c79 c119), if_pos (Or.inl p157)] at ok
              have ok1 := ok.1
              have ok2 := ok.2
              obtain ⟨v, D2, hD⟩ : ∃ v D2, D = v :: D2 := by
                cases D with
                | nil => exact absurd ok1 (by decide)
                | cons v D2 => exact ⟨v, D2, rfl⟩
              subst hD
              obtain ⟨m3, l3, tp⟩ := ms.pop
              simp only [List.length_cons] at ok2 hl a3
              have ek : (h1 57 38 - 1).toNat = D2.length := by omega
              refine AW.aload_n (pc' := 161) dX12_workedOut_160 rfl ?_
              refine AW.getR (pc' := 164) dX12_workedOut_161 ly_57 fX12_80 rfl ?_
              refine AW.aload_n (pc' := 165) dX12_workedOut_164 rfl ?_
              refine AW.getI (pc' := 168) dX12_workedOut_165 ly_57 fX12_241 rfl (fun r165 => ?_)
              try simp only [e76, e77, hto, ht, Int.toNat_natCast, ek, ek2, tp, tq] at r165 ⊢
              refine AW.iconst (pc' := 169) dX12_workedOut_168 ?_
              refine AW.isub (pc' := 170) dX12_workedOut_169 ?_
              refine AW.aload_n (pc' := 171) dX12_workedOut_170 rfl ?_
              refine AW.getR (pc' := 174) dX12_workedOut_171 ly_57 fX12_80 rfl ?_
              refine AW.aload_n (pc' := 175) dX12_workedOut_174 rfl ?_
              refine AW.getI (pc' := 178) dX12_workedOut_175 ly_57 fX12_241 rfl (fun r175 => ?_)
              try simp only [e76, e77, hto, ht, Int.toNat_natCast, ek, ek2, tp, tq] at r175 ⊢
              refine AW.iconst (pc' := 179) dX12_workedOut_178 ?_
              refine AW.isub (pc' := 180) dX12_workedOut_179 ?_
              first | refine AW.ialdN (pc' := 181) dX12_workedOut_180 ly_80 (by first | assumption | omega | (constructor <;> omega) | (simp only [Int.toNat_natCast]; omega) | exact b2_in _) (by decide) (fun r180 => ?_) | refine AW.iald (pc' := 181) dX12_workedOut_180 ly_80 (by first | assumption | omega | (constructor <;> omega) | (simp only [Int.toNat_natCast]; omega) | exact b2_in _) (by first | assumption | omega | (constructor <;> omega) | (simp only [Int.toNat_natCast]; omega) | exact b2_in _) (by decide) (fun r180 => ?_)
              try simp only [e76, e77, hto, ht, Int.toNat_natCast, ek, ek2, tp, tq] at r180 ⊢
              refine AW.if_ne (tgt := 188) (pc' := 184) dX12_workedOut_181 (by first | assumption | omega | (constructor <;> omega) | (simp only [Int.toNat_natCast]; omega) | exact b2_in _) (fun c181 => ?_) (fun c181 => ?_)
              · refine AW.iconst (pc' := 189) dX12_workedOut_188 ?_
                refine AW.top (b := b2 (v = 0)) (by first | (rw [b2_t (by omega)]; done) | (rw [b2_f (by omega)]; done)) ?_
                first | refine AW.iastN (pc' := 190) dX12_workedOut_189 ly_80 (by first | assumption | omega | (constructor <;> omega) | (simp only [Int.toNat_natCast]; omega) | exact b2_in _) (by decide) (by first | assumption | omega | (constructor <;> omega) | (simp only [Int.toNat_natCast]; omega) | exact b2_in _) ?_ | refine AW.iast (pc' := 190) dX12_workedOut_189 ly_80 (by first | assumption | omega | (constructor <;> omega) | (simp only [Int.toNat_natCast]; omega) | exact b2_in _) (by first | assumption | omega | (constructor <;> omega) | (simp only [Int.toNat_natCast]; omega) | exact b2_in _) (by decide) (by first | assumption | omega | (constructor <;> omega) | (simp only [Int.toNat_natCast]; omega) | exact b2_in _) ?_
                have kz : evF (nmF g a.toNat b c.toNat d) (t :: R) (v :: D2) cn = evF (nmF g a.toNat b c.toNat d) R (b2 (v = 0) :: D2) cn := by
                  conv => lhs; unfold evF
                  rw [if_neg (Int.not_le.mpr c43), if_neg c79, if_neg c119, if_pos p157]
                  rfl
                have km := ms.top (b2 (v = 0)) (i := (h1 57 38 - 1).toNat) ek
                have ko := ok2
                refine AW.goto (tgt := 314) dX12_workedOut_190 ?_
                skip
                refine AW.iinc7 (pc' := 317) dX12_workedOut_314 (by decide) rfl ?_
                refine AW.goto (tgt := 16) dX12_workedOut_317 ?_
                rw [kz]
                exact AW.weak (ih _ _ (k + 1) _ (by omega) hR2 km ko (by first | omega | (simp only [List.length_cons]; omega))) (by (repeat' first | exact LSub.e | refine LSub.n ?_ | refine LSub.c ?_ ?_) <;> first | rfl | exact congrArg Sum.inl (by first | rfl | omega | first | (push_cast; omega) | rfl | (rw [if_pos (by simp; omega)]) | (rw [if_neg (by simp; omega)])) | exact congrArg (fun z : Int => (vL z : AV)) (by first | rfl | omega | first | (push_cast; omega) | rfl | (rw [if_pos (by simp; omega)]) | (rw [if_neg (by simp; omega)])))
              · refine AW.iconst (pc' := 185) dX12_workedOut_184 ?_
                refine AW.goto (tgt := 189) dX12_workedOut_185 ?_
                refine AW.top (b := b2 (v = 0)) (by first | (rw [b2_t (by omega)]; done) | (rw [b2_f (by omega)]; done)) ?_
                first | refine AW.iastN (pc' := 190) dX12_workedOut_189 ly_80 (by first | assumption | omega | (constructor <;> omega) | (simp only [Int.toNat_natCast]; omega) | exact b2_in _) (by decide) (by first | assumption | omega | (constructor <;> omega) | (simp only [Int.toNat_natCast]; omega) | exact b2_in _) ?_ | refine AW.iast (pc' := 190) dX12_workedOut_189 ly_80 (by first | assumption | omega | (constructor <;> omega) | (simp only [Int.toNat_natCast]; omega) | exact b2_in _) (by first | assumption | omega | (constructor <;> omega) | (simp only [Int.toNat_natCast]; omega) | exact b2_in _) (by decide) (by first | assumption | omega | (constructor <;> omega) | (simp only [Int.toNat_natCast]; omega) | exact b2_in _) ?_
                have kz : evF (nmF g a.toNat b c.toNat d) (t :: R) (v :: D2) cn = evF (nmF g a.toNat b c.toNat d) R (b2 (v = 0) :: D2) cn := by
                  conv => lhs; unfold evF
                  rw [if_neg (Int.not_le.mpr c43), if_neg c79, if_neg c119, if_pos p157]
                  rfl
                have km := ms.top (b2 (v = 0)) (i := (h1 57 38 - 1).toNat) ek
                have ko := ok2
                refine AW.goto (tgt := 314) dX12_workedOut_190 ?_
                skip
                refine AW.iinc7 (pc' := 317) dX12_workedOut_314 (by decide) rfl ?_
                refine AW.goto (tgt := 16) dX12_workedOut_317 ?_
                rw [kz]
                exact AW.weak (ih _ _ (k + 1) _ (by omega) hR2 km ko (by first | omega | (simp only [List.length_cons]; omega))) (by (repeat' first | exact LSub.e | refine LSub.n ?_ | refine LSub.c ?_ ?_) <;> first | rfl | exact congrArg Sum.inl (by first | rfl | omega | first | (push_cast; omega) | rfl | (rw [if_pos (by simp; omega)]) | (rw [if_neg (by simp; omega)])) | exact congrArg (fun z : Int => (vL z : AV)) (by first | rfl | omega | first | (push_cast; omega) | rfl | (rw [if_pos (by simp; omega)]) | (rw [if_neg (by simp; omega)])))
          · have p119 : t = 901 := by omega
            rw [if_neg (Int.not_le.mpr c43), if_pos (Or.inr p119)] at ok
            have ok1 := ok.1
            have ok2 := ok.2
            obtain ⟨v, D2, hD⟩ : ∃ v D2, D = v :: D2 := by
              cases D with
              | nil => exact absurd ok1 (by decide)
              | cons v D2 => exact ⟨v, D2, rfl⟩
            subst hD
            obtain ⟨m3, l3, tp⟩ := ms.pop
            simp only [List.length_cons] at ok2 hl a3
            have ek : (h1 57 38 - 1).toNat = D2.length := by omega
            refine AW.aload_n (pc' := 123) dX12_workedOut_122 rfl ?_
            refine AW.dup (pc' := 124) dX12_workedOut_123 rfl ?_
            refine AW.getI (pc' := 127) dX12_workedOut_124 ly_57 fX12_241 rfl (fun r124 => ?_)
            try simp only [e76, e77, hto, ht, Int.toNat_natCast, ek, ek2, tp, tq] at r124 ⊢
            refine AW.iconst (pc' := 128) dX12_workedOut_127 ?_
            refine AW.isub (pc' := 129) dX12_workedOut_128 ?_
            refine AW.putI (pc' := 132) dX12_workedOut_129 ly_57 pX12_241 rfl (by first | assumption | omega | (constructor <;> omega) | (simp only [Int.toNat_natCast]; omega) | exact b2_in _) ?_
            refine AW.iload (pc' := 134) dX12_workedOut_132 rfl ?_
            refine AW.if_eq (tgt := 147) (pc' := 137) dX12_workedOut_134 (by first | assumption | omega | (constructor <;> omega) | (simp only [Int.toNat_natCast]; omega) | exact b2_in _) (fun c134 => ?_) (fun c134 => ?_)
            · have ec : cn = false := by
                cases cn with
                | false => rfl
                | true => exact absurd c134 (by decide)
              subst ec
              have kz : evF (nmF g a.toNat b c.toNat d) (t :: R) (v :: D2) false = evF (nmF g a.toNat b c.toNat d) R D2 true := by
                conv => lhs; unfold evF
                rw [if_neg (Int.not_le.mpr c43), if_neg c79, if_pos p119]
                rfl
              have km := m3
              have ko := ok2
              refine AW.iconst (pc' := 148) dX12_workedOut_147 ?_
              refine AW.istore6 (pc' := 150) dX12_workedOut_148 (by decide) rfl ?_
              refine AW.goto (tgt := 314) dX12_workedOut_150 ?_
              skip
              refine AW.iinc7 (pc' := 317) dX12_workedOut_314 (by decide) rfl ?_
              refine AW.goto (tgt := 16) dX12_workedOut_317 ?_
              rw [kz]
              exact AW.weak (ih _ _ (k + 1) _ (by omega) hR2 km ko (by first | omega | (simp only [List.length_cons]; omega))) (by (repeat' first | exact LSub.e | refine LSub.n ?_ | refine LSub.c ?_ ?_) <;> first | rfl | exact congrArg Sum.inl (by first | rfl | omega | first | (push_cast; omega) | rfl | (rw [if_pos (by simp; omega)]) | (rw [if_neg (by simp; omega)])) | exact congrArg (fun z : Int => (vL z : AV)) (by first | rfl | omega | first | (push_cast; omega) | rfl | (rw [if_pos (by simp; omega)]) | (rw [if_neg (by simp; omega)])))
            · have ec : cn = true := by
                cases cn with
                | false => exact absurd rfl c134
                | true => rfl
              subst ec
              refine AW.aload_n (pc' := 138) dX12_workedOut_137 rfl ?_
              refine AW.getR (pc' := 141) dX12_workedOut_138 ly_57 fX12_80 rfl ?_
              refine AW.aload_n (pc' := 142) dX12_workedOut_141 rfl ?_
              refine AW.getI (pc' := 145) dX12_workedOut_142 ly_57 fX12_241 rfl (fun r142 => ?_)
              try simp only [e76, e77, hto, ht, Int.toNat_natCast, ek, ek2, tp, tq] at r142 ⊢
              try simp only [hset_app, Nat.reduceEqDiff, false_and, and_false, true_and, and_true, reduceIte] at r142 ⊢
              first | refine AW.ialdN (pc' := 146) dX12_workedOut_145 ly_80 (by first | assumption | omega | (constructor <;> omega) | (simp only [Int.toNat_natCast]; omega) | exact b2_in _) (by decide) (fun r145 => ?_) | refine AW.iald (pc' := 146) dX12_workedOut_145 ly_80 (by first | assumption | omega | (constructor <;> omega) | (simp only [Int.toNat_natCast]; omega) | exact b2_in _) (by first | assumption | omega | (constructor <;> omega) | (simp only [Int.toNat_natCast]; omega) | exact b2_in _) (by decide) (fun r145 => ?_)
              try simp only [e76, e77, hto, ht, Int.toNat_natCast, ek, ek2, tp, tq] at r145 ⊢
              try simp only [hset_app, Nat.reduceEqDiff, false_and, and_false, true_and, and_true, reduceIte] at r145 ⊢
              try simp only [tp] at r145 ⊢
              refine AW.iret dX12_workedOut_146 ?_ ?_
              · refine congrArg (fun z : Int => (some (vI z) : Option AV)) ?_
                unfold evF
                rw [if_neg (Int.not_le.mpr c43), if_neg c79, if_pos p119, if_pos rfl]
                rfl
              · refine ⟨m3.ep, ?_⟩
                unfold evF
                rw [if_neg (Int.not_le.mpr c43), if_neg c79, if_pos p119, if_pos rfl]
                exact r145
        · have p79 : t = 900 := by omega
          rw [if_neg (Int.not_le.mpr c43), if_pos (Or.inl p79)] at ok
          have ok1 := ok.1
          have ok2 := ok.2
          obtain ⟨v, D2, hD⟩ : ∃ v D2, D = v :: D2 := by
            cases D with
            | nil => exact absurd ok1 (by decide)
            | cons v D2 => exact ⟨v, D2, rfl⟩
          subst hD
          obtain ⟨m3, l3, tp⟩ := ms.pop
          simp only [List.length_cons] at ok2 hl a3
          have ek : (h1 57 38 - 1).toNat = D2.length := by omega
          refine AW.aload_n (pc' := 83) dX12_workedOut_82 rfl ?_
          refine AW.dup (pc' := 84) dX12_workedOut_83 rfl ?_
          refine AW.getI (pc' := 87) dX12_workedOut_84 ly_57 fX12_241 rfl (fun r84 => ?_)
          try simp only [e76, e77, hto, ht, Int.toNat_natCast, ek, ek2, tp, tq] at r84 ⊢
          refine AW.iconst (pc' := 88) dX12_workedOut_87 ?_
          refine AW.isub (pc' := 89) dX12_workedOut_88 ?_
          refine AW.putI (pc' := 92) dX12_workedOut_89 ly_57 pX12_241 rfl (by first | assumption | omega | (constructor <;> omega) | (simp only [Int.toNat_natCast]; omega) | exact b2_in _) ?_
          refine AW.aload_n (pc' := 93) dX12_workedOut_92 rfl ?_
          refine AW.getR (pc' := 96) dX12_workedOut_93 ly_57 fX12_80 rfl ?_
          refine AW.aload_n (pc' := 97) dX12_workedOut_96 rfl ?_
          refine AW.getI (pc' := 100) dX12_workedOut_97 ly_57 fX12_241 rfl (fun r97 => ?_)
          try simp only [e76, e77, hto, ht, Int.toNat_natCast, ek, ek2, tp, tq] at r97 ⊢
          try simp only [hset_app, Nat.reduceEqDiff, false_and, and_false, true_and, and_true, reduceIte] at r97 ⊢
          first | refine AW.ialdN (pc' := 101) dX12_workedOut_100 ly_80 (by first | assumption | omega | (constructor <;> omega) | (simp only [Int.toNat_natCast]; omega) | exact b2_in _) (by decide) (fun r100 => ?_) | refine AW.iald (pc' := 101) dX12_workedOut_100 ly_80 (by first | assumption | omega | (constructor <;> omega) | (simp only [Int.toNat_natCast]; omega) | exact b2_in _) (by first | assumption | omega | (constructor <;> omega) | (simp only [Int.toNat_natCast]; omega) | exact b2_in _) (by decide) (fun r100 => ?_)
          try simp only [e76, e77, hto, ht, Int.toNat_natCast, ek, ek2, tp, tq] at r100 ⊢
          try simp only [hset_app, Nat.reduceEqDiff, false_and, and_false, true_and, and_true, reduceIte] at r100 ⊢
          try simp only [tp] at r100 ⊢
          have kz : evF (nmF g a.toNat b c.toNat d) (t :: R) (v :: D2) cn = evF (nmF g a.toNat b c.toNat d) R D2 (decide (v ≠ 0)) := by
            conv => lhs; unfold evF
            rw [if_neg (Int.not_le.mpr c43), if_pos p79]
            rfl
          have km := m3
          have ko := ok2
          refine AW.if_eq (tgt := 108) (pc' := 104) dX12_workedOut_101 (by first | assumption | omega | (constructor <;> omega) | (simp only [Int.toNat_natCast]; omega) | exact b2_in _) (fun c101 => ?_) (fun c101 => ?_)
          · refine AW.iconst (pc' := 109) dX12_workedOut_108 ?_
            refine AW.istore6 (pc' := 111) dX12_workedOut_109 (by decide) rfl ?_
            refine AW.goto (tgt := 314) dX12_workedOut_111 ?_
            skip
            refine AW.iinc7 (pc' := 317) dX12_workedOut_314 (by decide) rfl ?_
            refine AW.goto (tgt := 16) dX12_workedOut_317 ?_
            rw [kz]
            exact AW.weak (ih _ _ (k + 1) _ (by omega) hR2 km ko (by first | omega | (simp only [List.length_cons]; omega))) (by (repeat' first | exact LSub.e | refine LSub.n ?_ | refine LSub.c ?_ ?_) <;> first | rfl | exact congrArg Sum.inl (by first | rfl | omega | first | (push_cast; omega) | rfl | (rw [if_pos (by simp; omega)]) | (rw [if_neg (by simp; omega)])) | exact congrArg (fun z : Int => (vL z : AV)) (by first | rfl | omega | first | (push_cast; omega) | rfl | (rw [if_pos (by simp; omega)]) | (rw [if_neg (by simp; omega)])))
          · refine AW.iconst (pc' := 105) dX12_workedOut_104 ?_
            refine AW.goto (tgt := 109) dX12_workedOut_105 ?_
            refine AW.istore6 (pc' := 111) dX12_workedOut_109 (by decide) rfl ?_
            refine AW.goto (tgt := 314) dX12_workedOut_111 ?_
            skip
            refine AW.iinc7 (pc' := 317) dX12_workedOut_314 (by decide) rfl ?_
            refine AW.goto (tgt := 16) dX12_workedOut_317 ?_
            rw [kz]
            exact AW.weak (ih _ _ (k + 1) _ (by omega) hR2 km ko (by first | omega | (simp only [List.length_cons]; omega))) (by (repeat' first | exact LSub.e | refine LSub.n ?_ | refine LSub.c ?_ ?_) <;> first | rfl | exact congrArg Sum.inl (by first | rfl | omega | first | (push_cast; omega) | rfl | (rw [if_pos (by simp; omega)]) | (rw [if_neg (by simp; omega)])) | exact congrArg (fun z : Int => (vL z : AV)) (by first | rfl | omega | first | (push_cast; omega) | rfl | (rw [if_pos (by simp; omega)]) | (rw [if_neg (by simp; omega)])))
      · have p43 : 1000 ≤ t := by omega
        rw [if_pos p43] at ok
        refine AW.aload_n (pc' := 47) dX12_workedOut_46 rfl ?_
        refine AW.getR (pc' := 50) dX12_workedOut_47 ly_57 fX12_80 rfl ?_
        refine AW.aload_n (pc' := 51) dX12_workedOut_50 rfl ?_
        refine AW.getI (pc' := 54) dX12_workedOut_51 ly_57 fX12_241 rfl (fun r51 => ?_)
        try simp only [e76, e77, hto, ht, Int.toNat_natCast, ek, ek2, tp, tq] at r51 ⊢
        refine AW.iload (pc' := 56) dX12_workedOut_54 rfl ?_
        refine AW.sipush (pc' := 59) dX12_workedOut_56 (by decide) ?_
        refine AW.isub (pc' := 60) dX12_workedOut_59 ?_
        first | refine AW.iastN (pc' := 61) dX12_workedOut_60 ly_80 (by first | assumption | omega | (constructor <;> omega) | (simp only [Int.toNat_natCast]; omega) | exact b2_in _) (by decide) (by first | assumption | omega | (constructor <;> omega) | (simp only [Int.toNat_natCast]; omega) | exact b2_in _) ?_ | refine AW.iast (pc' := 61) dX12_workedOut_60 ly_80 (by first | assumption | omega | (constructor <;> omega) | (simp only [Int.toNat_natCast]; omega) | exact b2_in _) (by first | assumption | omega | (constructor <;> omega) | (simp only [Int.toNat_natCast]; omega) | exact b2_in _) (by decide) (by first | assumption | omega | (constructor <;> omega) | (simp only [Int.toNat_natCast]; omega) | exact b2_in _) ?_
        refine AW.aload_n (pc' := 62) dX12_workedOut_61 rfl ?_
        refine AW.dup (pc' := 63) dX12_workedOut_62 rfl ?_
        refine AW.getI (pc' := 66) dX12_workedOut_63 ly_57 fX12_241 rfl (fun r63 => ?_)
        try simp only [e76, e77, hto, ht, Int.toNat_natCast, ek, ek2, tp, tq] at r63 ⊢
        try simp only [hset_app, Nat.reduceEqDiff, false_and, and_false, true_and, and_true, reduceIte] at r63 ⊢
        refine AW.iconst (pc' := 67) dX12_workedOut_66 ?_
        refine AW.iadd (pc' := 68) dX12_workedOut_67 ?_
        refine AW.putI (pc' := 71) dX12_workedOut_68 ly_57 pX12_241 rfl (by first | assumption | omega | (constructor <;> omega) | (simp only [Int.toNat_natCast]; omega) | exact b2_in _) ?_
        have kz : evF (nmF g a.toNat b c.toNat d) (t :: R) D cn = evF (nmF g a.toNat b c.toNat d) R ((t - 1000) :: D) cn := by
          conv => lhs; unfold evF
          rw [if_pos p43]
        have km := ms.push (t - 1000)
        have ko := ok
        refine AW.goto (tgt := 314) dX12_workedOut_71 ?_
        skip
        refine AW.iinc7 (pc' := 317) dX12_workedOut_314 (by decide) rfl ?_
        refine AW.goto (tgt := 16) dX12_workedOut_317 ?_
        rw [kz]
        exact AW.weak (ih _ _ (k + 1) _ (by omega) hR2 km ko (by first | omega | (simp only [List.length_cons]; omega))) (by (repeat' first | exact LSub.e | refine LSub.n ?_ | refine LSub.c ?_ ?_) <;> first | rfl | exact congrArg Sum.inl (by first | rfl | omega | first | (push_cast; omega) | rfl | (rw [if_pos (by simp; omega)]) | (rw [if_neg (by simp; omega)])) | exact congrArg (fun z : Int => (vL z : AV)) (by first | rfl | omega | first | (push_cast; omega) | rfl | (rw [if_pos (by simp; omega)]) | (rw [if_neg (by simp; omega)])))
set_option maxRecDepth 100000 in
set_option maxHeartbeats 4000000 in
theorem c_X12_workedOut {K : KT} {dep : Nat} {h : Hp} {l a b c d : Int} {L : List Int} (hd : 4 ≤ dep) (hI : IMa h) (ql : 0 ≤ l ∧ l < 4) (qa : 0 ≤ a ∧ a < h 57 13) (qy : 0 ≤ b ∧ b ≤ 99) (qs : 0 ≤ c ∧ c < h 57 14) (qd : inI d) (q77 : 0 ≤ h 77 l.toNat) (qt : h 77 (l + 1).toNat = h 77 l.toNat + L.length) (qb : h 77 (l + 1).toNat ≤ 600) (qr : ∀ i : Nat, i < L.length → h 76 ((h 77 l.toNat).toNat + i) = L.getD i 0) (ok : okT L 0) (qL : L.length ≤ 125) : AMp K yX12_workedOut cX12_workedOut 9 (some .int) dep [vR 57, vI l, vI a, vI b, vI c, vI d] h (some (vI (evF (nmF h a.toNat b c.toNat d) L [] true))) (fun x => EP mscr h x ∧ inI (evF (nmF h a.toNat b c.toNat d) L [] true)) := by
  refine AM.of (own := RX12) (ls := [some (vR 57), some (vI l), some (vI a), some (vI b), some (vI c), some (vI d), none, none, none]) rfl (by decide +kernel) (by exact Nat.le_of_ble_eq_true rfl) rfl (fun hO => ?_)
  refine AW.aload_n (pc' := 1) dX12_workedOut_0 rfl ?_
  refine AW.iconst (pc' := 2) dX12_workedOut_1 ?_
  refine AW.putI (pc' := 5) dX12_workedOut_2 ly_57 pX12_241 rfl (by first | assumption | omega | (constructor <;> omega) | (simp only [Int.toNat_natCast]; omega) | exact b2_in _) ?_
  refine AW.iconst (pc' := 6) dX12_workedOut_5 ?_
  refine AW.istore6 (pc' := 8) dX12_workedOut_6 (by decide) rfl ?_
  refine AW.aload_n (pc' := 9) dX12_workedOut_8 rfl ?_
  refine AW.getR (pc' := 12) dX12_workedOut_9 ly_57 fX12_71 rfl ?_
  refine AW.iload_n (pc' := 13) dX12_workedOut_12 rfl ?_
  first | refine AW.ialdN (pc' := 14) dX12_workedOut_13 ly_77 (by first | assumption | omega | (constructor <;> omega) | (simp only [Int.toNat_natCast]; omega) | exact b2_in _) (by decide) (fun r13 => ?_) | refine AW.iald (pc' := 14) dX12_workedOut_13 ly_77 (by first | assumption | omega | (constructor <;> omega) | (simp only [Int.toNat_natCast]; omega) | exact b2_in _) (by first | assumption | omega | (constructor <;> omega) | (simp only [Int.toNat_natCast]; omega) | exact b2_in _) (by decide) (fun r13 => ?_)
  try simp only [hset_app, Nat.reduceEqDiff, false_and, and_false, true_and, and_true, reduceIte] at r13 ⊢
  refine AW.istore7 (pc' := 16) dX12_workedOut_14 (by decide) rfl ?_
  have wm : WM h [] (hset h 57 38 0) := ⟨EX.rf.st rfl, fun j hj => hset_slot hj, hset_same _ _ _ _, STK.nil _ _⟩
  exact AW.weak (lp_X12_workedOut (g := h) (l := l) (a := a) (b := b) (c := c) (d := d) (to := (h 77 l.toNat).toNat + L.length) hI ql qa qy qs qd (by rw [qt]; push_cast; omega) (by omega) hd L [] true (h 77 l.toNat).toNat (hset h 57 38 0) rfl qr wm ok (by simp; omega)) (by (repeat' first | exact LSub.e | refine LSub.n ?_ | refine LSub.c ?_ ?_) <;> first | rfl | exact congrArg Sum.inl (by first | rfl | omega | omega) | exact congrArg (fun z : Int => (vL z : AV)) (by first | rfl | omega | omega))
