/-! runs from a row; shift: the reference -/
abbrev rowM (g : Hp) (a : Int) (j : Nat) : Int := g 89 (60 * a.toNat + j)
abbrev rfM (g : Hp) (a i : Int) (c : Nat) (sz : Int) : Prop := 0 ≤ i ∧ rfP sz (g 88 a.toNat) (g 57 13) (g 57 15) (g 57 14) (rowM g a) (i + 5 * (c : Int))
def rnD (g : Hp) (a i : Int) : Nat → Nat → Int → Int
  | 0, c, _ => c
  | m + 1, c, s => if rfM g a i c s then rnD g a i m (c + 1) (s + 1) else c
def cmR (g h : Hp) (a i : Int) (c : Nat) : Hp := cmM h (wr (rowM g a (i + 5 * (c : Int)).toNat)) (wr (rowM g a ((i + 5 * (c : Int)).toNat + 1))) (wr (rowM g a ((i + 5 * (c : Int)).toNat + 2))) (wr (rowM g a ((i + 5 * (c : Int)).toNat + 3))) (wr (rowM g a ((i + 5 * (c : Int)).toNat + 4)))
def rnM (g : Hp) (a i : Int) : Nat → Nat → Hp → Hp → Prop
  | 0, _, h, x => x = h
  | m + 1, c, h, x => (¬ rfM g a i c (h 57 16) ∧ x = h) ∨ (rfM g a i c (h 57 16) ∧ rnM g a i m (c + 1) (cmR g h a i c) x)
set_option maxRecDepth 100000 in
set_option maxHeartbeats 4000000 in
theorem lp_X12_runs {K : KT}  {dep : Nat} {g : Hp} {a i n : Int} (qa : 0 ≤ a ∧ a < 6) (qi : inI i) (ql : 0 ≤ g 88 a.toNat ∧ g 88 a.toNat ≤ 60) (qn : n ≤ 12) (hd : 2 ≤ dep) : ∀ (m k : Nat) (h1 : Hp), (k : Int) + m = n → EP mrc g h1 → 0 ≤ h1 57 16 ∧ h1 57 16 ≤ 120 → AW K (XP K (some (vI (rnD g a i m k (h1 57 16)))) (fun x => rnM g a i m k h1 x)) RX12 cX12_runs 12 (some .int) dep 51 [some (vR 57), some (vI (a)), some (vI (i)), some (vI (n)), some (vI ((k : Int))), some (vI ((k : Int))), none, none, none, none, none, none] [] h1 := by
  intro m
  induction m with
  | zero =>
    intro k h1 hk e1 hs
    refine AW.iload (pc' := 53) dX12_runs_51 rfl ?_
    refine AW.iload_n (pc' := 54) dX12_runs_53 rfl ?_
    refine AW.icmp_ge (tgt := 204) (pc' := 57) dX12_runs_54 (by first | assumption | omega | (constructor <;> omega) | (simp only [Int.toNat_natCast]; omega) | exact b2_in _) (by first | assumption | omega | (constructor <;> omega) | (simp only [Int.toNat_natCast]; omega) | exact b2_in _) (fun c54 => ?_) (fun c54 => ?_)
    · refine AW.iload (pc' := 206) dX12_runs_204 rfl ?_
      refine AW.iret dX12_runs_206 ?_ ?_
      · rfl
      · rfl
    · omega
  | succ m ih =>
    intro k h1 hk e1 hs
    have w88 := e1.row 88 (fun _ => rfl)
    have w89 := e1.row 89 (fun _ => rfl)
    have w13 : h1 57 13 = g 57 13 := e1 57 13 rfl
    have w14 : h1 57 14 = g 57 14 := e1 57 14 rfl
    have w15 : h1 57 15 = g 57 15 := e1 57 15 rfl
    have fj0 := w88
    have fj1 := w88
    have fj2 := w88
    have fj3 := w88
    have fj4 := w88
    refine AW.iload (pc' := 53) dX12_runs_51 rfl ?_
    refine AW.iload_n (pc' := 54) dX12_runs_53 rfl ?_
    refine AW.icmp_ge (tgt := 204) (pc' := 57) dX12_runs_54 (by first | assumption | omega | (constructor <;> omega) | (simp only [Int.toNat_natCast]; omega) | exact b2_in _) (by first | assumption | omega | (constructor <;> omega) | (simp only [Int.toNat_natCast]; omega) | exact b2_in _) (fun c54 => ?_) (fun c54 => ?_)
    · omega
    · refine AW.iload_n (pc' := 58) dX12_runs_57 rfl ?_
      refine AW.if_lt (tgt := 204) (pc' := 61) dX12_runs_58 (by first | assumption | omega | (constructor <;> omega) | (simp only [Int.toNat_natCast]; omega) | exact b2_in _) (fun c58 => ?_) (fun c58 => ?_)
      · refine AW.iload (pc' := 206) dX12_runs_204 rfl ?_
        refine AW.iret dX12_runs_206 ?_ ?_
        · refine congrArg (fun z : Int => (some (vI z) : Option AV)) ?_
          unfold rnD
          rw [if_neg (fun w => absurd w (by simp only [rfM, rfP, rowP]; omega))]
        · exact Or.inl ⟨(fun w => absurd w (by simp only [rfM, rfP, rowP]; omega)), rfl⟩
      · refine AW.iload_n (pc' := 62) dX12_runs_61 rfl ?_
        refine AW.aload_n (pc' := 63) dX12_runs_62 rfl ?_
        refine AW.getR (pc' := 66) dX12_runs_63 ly_57 fX12_104 rfl ?_
        refine AW.iload_n (pc' := 67) dX12_runs_66 rfl ?_
        first | refine AW.ialdN (pc' := 68) dX12_runs_67 ly_88 (by first | assumption | omega | (constructor <;> omega) | (simp only [Int.toNat_natCast]; omega) | exact b2_in _) (by decide) (fun r67 => ?_) | refine AW.iald (pc' := 68) dX12_runs_67 ly_88 (by first | assumption | omega | (constructor <;> omega) | (simp only [Int.toNat_natCast]; omega) | exact b2_in _) (by first | assumption | omega | (constructor <;> omega) | (simp only [Int.toNat_natCast]; omega) | exact b2_in _) (by decide) (fun r67 => ?_)
        try simp only [w88, w89, w13, w14, w15, fj0, fj1, fj2, fj3, fj4] at r67 ⊢
        refine AW.iconst (pc' := 69) dX12_runs_68 ?_
        refine AW.iload (pc' := 71) dX12_runs_69 rfl ?_
        refine AW.iconst (pc' := 72) dX12_runs_71 ?_
        refine AW.iadd (pc' := 73) dX12_runs_72 ?_
        refine AW.imul (pc' := 74) dX12_runs_73 ?_
        refine AW.isub (pc' := 75) dX12_runs_74 ?_
        refine AW.icmp_gt (tgt := 87) (pc' := 78) dX12_runs_75 (by first | assumption | omega | (constructor <;> omega) | (simp only [Int.toNat_natCast]; omega) | exact b2_in _) (by first | assumption | omega | (constructor <;> omega) | (simp only [Int.toNat_natCast]; omega) | exact b2_in _) (fun c75 => ?_) (fun c75 => ?_)
        · refine AW.iload (pc' := 89) dX12_runs_87 rfl ?_
          refine AW.iret dX12_runs_89 ?_ ?_
          · refine congrArg (fun z : Int => (some (vI z) : Option AV)) ?_
            unfold rnD
            rw [if_neg (fun w => absurd w (by simp only [rfM, rfP, rowP]; omega))]
          · exact Or.inl ⟨(fun w => absurd w (by simp only [rfM, rfP, rowP]; omega)), rfl⟩
        · refine AW.aload_n (pc' := 79) dX12_runs_78 rfl ?_
          refine AW.getI (pc' := 82) dX12_runs_79 ly_57 fX12_128 rfl (fun r79 => ?_)
          try simp only [w88, w89, w13, w14, w15, fj0, fj1, fj2, fj3, fj4] at r79 ⊢
          refine AW.bipush (pc' := 84) dX12_runs_82 (by decide) ?_
          refine AW.icmp_ne (tgt := 90) (pc' := 87) dX12_runs_84 (by first | assumption | omega | (constructor <;> omega) | (simp only [Int.toNat_natCast]; omega) | exact b2_in _) (by first | assumption | omega | (constructor <;> omega) | (simp only [Int.toNat_natCast]; omega) | exact b2_in _) (fun c84 => ?_) (fun c84 => ?_)
          · refine AW.bipush (pc' := 92) dX12_runs_90 (by decide) ?_
            refine AW.iload_n (pc' := 93) dX12_runs_92 rfl ?_
            refine AW.imul (pc' := 94) dX12_runs_93 ?_
            refine AW.iload_n (pc' := 95) dX12_runs_94 rfl ?_
            refine AW.iadd (pc' := 96) dX12_runs_95 ?_
            refine AW.iconst (pc' := 97) dX12_runs_96 ?_
            refine AW.iload (pc' := 99) dX12_runs_97 rfl ?_
            refine AW.imul (pc' := 100) dX12_runs_99 ?_
            refine AW.iadd (pc' := 101) dX12_runs_100 ?_
            refine AW.istore6 (pc' := 103) dX12_runs_101 (by decide) rfl ?_
            have fj0 : (60 * a + i + 5 * (k : Int)).toNat = 60 * a.toNat + (i + 5 * (k : Int)).toNat := by omega
            have fj1 : (60 * a + i + 5 * (k : Int) + 1).toNat = 60 * a.toNat + ((i + 5 * (k : Int)).toNat + 1) := by omega
            have fj2 : (60 * a + i + 5 * (k : Int) + 2).toNat = 60 * a.toNat + ((i + 5 * (k : Int)).toNat + 2) := by omega
            have fj3 : (60 * a + i + 5 * (k : Int) + 3).toNat = 60 * a.toNat + ((i + 5 * (k : Int)).toNat + 3) := by omega
            have fj4 : (60 * a + i + 5 * (k : Int) + 4).toNat = 60 * a.toNat + ((i + 5 * (k : Int)).toNat + 4) := by omega
            refine AW.aload_n (pc' := 104) dX12_runs_103 rfl ?_
            refine AW.getR (pc' := 107) dX12_runs_104 ly_57 fX12_107 rfl ?_
            refine AW.iload (pc' := 109) dX12_runs_107 rfl ?_
            first | refine AW.laldN (pc' := 110) dX12_runs_109 ly_89 (by first | assumption | omega | (constructor <;> omega) | (simp only [Int.toNat_natCast]; omega) | exact b2_in _) (by decide) (fun r109 => ?_) | refine AW.lald (pc' := 110) dX12_runs_109 ly_89 (by first | assumption | omega | (constructor <;> omega) | (simp only [Int.toNat_natCast]; omega) | exact b2_in _) (by first | assumption | omega | (constructor <;> omega) | (simp only [Int.toNat_natCast]; omega) | exact b2_in _) (by decide) (fun r109 => ?_)
            try simp only [w88, w89, w13, w14, w15, fj0, fj1, fj2, fj3, fj4] at r109 ⊢
            refine AW.l2i (pc' := 111) dX12_runs_110 ?_
            rw [show g 89 (60 * a.toNat + ((i + 5 * (k : Int)).toNat)) = rowM g a ((i + 5 * (k : Int)).toNat) from rfl]
            refine AW.cong (b := wr (rowM g a ((i + 5 * (k : Int)).toNat))) (wr_of _) ?_
            have i0 := wr_in (rowM g a ((i + 5 * (k : Int)).toNat))
            generalize hw0 : wr (rowM g a ((i + 5 * (k : Int)).toNat)) = w0 at i0 ⊢
            refine AW.istore7 (pc' := 113) dX12_runs_111 (by decide) rfl ?_
            refine AW.aload_n (pc' := 114) dX12_runs_113 rfl ?_
            refine AW.getR (pc' := 117) dX12_runs_114 ly_57 fX12_107 rfl ?_
            refine AW.iload (pc' := 119) dX12_runs_117 rfl ?_
            refine AW.iconst (pc' := 120) dX12_runs_119 ?_
            refine AW.iadd (pc' := 121) dX12_runs_120 ?_
            first | refine AW.laldN (pc' := 122) dX12_runs_121 ly_89 (by first | assumption | omega | (constructor <;> omega) | (simp only [Int.toNat_natCast]; omega) | exact b2_in _) (by decide) (fun r121 => ?_) | refine AW.lald (pc' := 122) dX12_runs_121 ly_89 (by first | assumption | omega | (constructor <;> omega) | (simp only [Int.toNat_natCast]; omega) | exact b2_in _) (by first | assumption | omega | (constructor <;> omega) | (simp only [Int.toNat_natCast]; omega) | exact b2_in _) (by decide) (fun r121 => ?_)
            try simp only [w88, w89, w13, w14, w15, fj0, fj1, fj2, fj3, fj4] at r121 ⊢
            refine AW.l2i (pc' := 123) dX12_runs_122 ?_
            rw [show g 89 (60 * a.toNat + ((i + 5 * (k : Int)).toNat + 1)) = rowM g a ((i + 5 * (k : Int)).toNat + 1) from rfl]
            refine AW.cong (b := wr (rowM g a ((i + 5 * (k : Int)).toNat + 1))) (wr_of _) ?_
            have i1 := wr_in (rowM g a ((i + 5 * (k : Int)).toNat + 1))
            generalize hw1 : wr (rowM g a ((i + 5 * (k : Int)).toNat + 1)) = w1 at i1 ⊢
            refine AW.istore8 (pc' := 125) dX12_runs_123 (by decide) rfl ?_
            refine AW.aload_n (pc' := 126) dX12_runs_125 rfl ?_
            refine AW.getR (pc' := 129) dX12_runs_126 ly_57 fX12_107 rfl ?_
            refine AW.iload (pc' := 131) dX12_runs_129 rfl ?_
            refine AW.iconst (pc' := 132) dX12_runs_131 ?_
            refine AW.iadd (pc' := 133) dX12_runs_132 ?_
            first | refine AW.laldN (pc' := 134) dX12_runs_133 ly_89 (by first | assumption | omega | (constructor <;> omega) | (simp only [Int.toNat_natCast]; omega) | exact b2_in _) (by decide) (fun r133 => ?_) | refine AW.lald (pc' := 134) dX12_runs_133 ly_89 (by first | assumption | omega | (constructor <;> omega) | (simp only [Int.toNat_natCast]; omega) | exact b2_in _) (by first | assumption | omega | (constructor <;> omega) | (simp only [Int.toNat_natCast]; omega) | exact b2_in _) (by decide) (fun r133 => ?_)
            try simp only [w88, w89, w13, w14, w15, fj0, fj1, fj2, fj3, fj4] at r133 ⊢
            refine AW.l2i (pc' := 135) dX12_runs_134 ?_
            rw [show g 89 (60 * a.toNat + ((i + 5 * (k : Int)).toNat + 2)) = rowM g a ((i + 5 * (k : Int)).toNat + 2) from rfl]
            refine AW.cong (b := wr (rowM g a ((i + 5 * (k : Int)).toNat + 2))) (wr_of _) ?_
            have i2 := wr_in (rowM g a ((i + 5 * (k : Int)).toNat + 2))
            generalize hw2 : wr (rowM g a ((i + 5 * (k : Int)).toNat + 2)) = w2 at i2 ⊢
            refine AW.istore9 (pc' := 137) dX12_runs_135 (by decide) rfl ?_
            refine AW.aload_n (pc' := 138) dX12_runs_137 rfl ?_
            refine AW.getR (pc' := 141) dX12_runs_138 ly_57 fX12_107 rfl ?_
            refine AW.iload (pc' := 143) dX12_runs_141 rfl ?_
            refine AW.iconst (pc' := 144) dX12_runs_143 ?_
            refine AW.iadd (pc' := 145) dX12_runs_144 ?_
            first | refine AW.laldN (pc' := 146) dX12_runs_145 ly_89 (by first | assumption | omega | (constructor <;> omega) | (simp only [Int.toNat_natCast]; omega) | exact b2_in _) (by decide) (fun r145 => ?_) | refine AW.lald (pc' := 146) dX12_runs_145 ly_89 (by first | assumption | omega | (constructor <;> omega) | (simp only [Int.toNat_natCast]; omega) | exact b2_in _) (by first | assumption | omega | (constructor <;> omega) | (simp only [Int.toNat_natCast]; omega) | exact b2_in _) (by decide) (fun r145 => ?_)
            try simp only [w88, w89, w13, w14, w15, fj0, fj1, fj2, fj3, fj4] at r145 ⊢
            refine AW.l2i (pc' := 147) dX12_runs_146 ?_
            rw [show g 89 (60 * a.toNat + ((i + 5 * (k : Int)).toNat + 3)) = rowM g a ((i + 5 * (k : Int)).toNat + 3) from rfl]
            refine AW.cong (b := wr (rowM g a ((i + 5 * (k : Int)).toNat + 3))) (wr_of _) ?_
            have i3 := wr_in (rowM g a ((i + 5 * (k : Int)).toNat + 3))
            generalize hw3 : wr (rowM g a ((i + 5 * (k : Int)).toNat + 3)) = w3 at i3 ⊢
            refine AW.istore10 (pc' := 149) dX12_runs_147 (by decide) rfl ?_
            refine AW.aload_n (pc' := 150) dX12_runs_149 rfl ?_
            refine AW.getR (pc' := 153) dX12_runs_150 ly_57 fX12_107 rfl ?_
            refine AW.iload (pc' := 155) dX12_runs_153 rfl ?_
            refine AW.iconst (pc' := 156) dX12_runs_155 ?_
            refine AW.iadd (pc' := 157) dX12_runs_156 ?_
            first | refine AW.laldN (pc' := 158) dX12_runs_157 ly_89 (by first | assumption | omega | (constructor <;> omega) | (simp only [Int.toNat_natCast]; omega) | exact b2_in _) (by decide) (fun r157 => ?_) | refine AW.lald (pc' := 158) dX12_runs_157 ly_89 (by first | assumption | omega | (constructor <;> omega) | (simp only [Int.toNat_natCast]; omega) | exact b2_in _) (by first | assumption | omega | (constructor <;> omega) | (simp only [Int.toNat_natCast]; omega) | exact b2_in _) (by decide) (fun r157 => ?_)
            try simp only [w88, w89, w13, w14, w15, fj0, fj1, fj2, fj3, fj4] at r157 ⊢
            refine AW.l2i (pc' := 159) dX12_runs_158 ?_
            rw [show g 89 (60 * a.toNat + ((i + 5 * (k : Int)).toNat + 4)) = rowM g a ((i + 5 * (k : Int)).toNat + 4) from rfl]
            refine AW.cong (b := wr (rowM g a ((i + 5 * (k : Int)).toNat + 4))) (wr_of _) ?_
            have i4 := wr_in (rowM g a ((i + 5 * (k : Int)).toNat + 4))
            generalize hw4 : wr (rowM g a ((i + 5 * (k : Int)).toNat + 4)) = w4 at i4 ⊢
            refine AW.istore11 (pc' := 161) dX12_runs_159 (by decide) rfl ?_
            refine AW.aload_n (pc' := 162) dX12_runs_161 rfl ?_
            refine AW.iload (pc' := 164) dX12_runs_162 rfl ?_
            refine AW.iload (pc' := 166) dX12_runs_164 rfl ?_
            refine AW.iload (pc' := 168) dX12_runs_166 rfl ?_
            refine AW.iload (pc' := 170) dX12_runs_168 rfl ?_
            refine AW.iload (pc' := 172) dX12_runs_170 rfl ?_
            refine AW.invV5 (pc' := 175) dX12_runs_172 mlX12_141 mX12_mayRun ly_57 rfl (c_X12_mayRun (dep := dep - 1) (by omega) (by omega) (by omega) (by omega) (by omega) (by omega)) ?_
            try simp only [Int.toNat_natCast, w88, w89, w13, w14, w15, fj0, fj1, fj2, fj3, fj4]
            refine AW.ifb_ne (tgt := 181) (pc' := 178) dX12_runs_175 (fun c175 => ?_) (fun c175 => ?_)
            · have pfm : rfM g a i k (h1 57 16) := by
                simp only [rfM, rfP, rowP]
                simp only [hw0, hw1, hw2, hw3, hw4]
                omega
              refine AW.aload_n (pc' := 182) dX12_runs_181 rfl ?_
              refine AW.iload (pc' := 184) dX12_runs_182 rfl ?_
              refine AW.iload (pc' := 186) dX12_runs_184 rfl ?_
              refine AW.iload (pc' := 188) dX12_runs_186 rfl ?_
              refine AW.iload (pc' := 190) dX12_runs_188 rfl ?_
              refine AW.iload (pc' := 192) dX12_runs_190 rfl ?_
              refine AW.invV5v (pc' := 195) dX12_runs_192 mlX12_145 mX12_comes ly_57 rfl (c_X12_comes (dep := dep - 1) (by omega) (by omega) (by omega) (by omega) (by omega) (by omega)) ?_
              try simp only [Int.toNat_natCast, w88, w89, w13, w14, w15, fj0, fj1, fj2, fj3, fj4]
              refine AW.iinc4 (pc' := 198) dX12_runs_195 (by decide) rfl ?_
              refine AW.iinc5 (pc' := 201) dX12_runs_198 (by decide) rfl ?_
              refine AW.goto (tgt := 51) dX12_runs_201 ?_
              have n3 : cmM h1 w0 w1 w2 w3 w4 57 16 = h1 57 16 + 1 := cmM_n h1 w0 w1 w2 w3 w4
              have e3 := e1.tr (cmM_ep h1 w0 w1 w2 w3 w4)
              have ec : cmR g h1 a i k = cmM h1 w0 w1 w2 w3 w4 := by unfold cmR; rw [hw0, hw1, hw2, hw3, hw4]
              have z : rnD g a i (m + 1) k (h1 57 16) = rnD g a i m (k + 1) (cmM h1 w0 w1 w2 w3 w4 57 16) := by
                conv => lhs; unfold rnD
                rw [if_pos pfm, n3]
              rw [z]
              have y := ih (k + 1) (cmM h1 w0 w1 w2 w3 w4) (by omega) e3 (by have := pfm.2.2.2; omega)
              exact AW.weak (AW.post y (fun x hx => Or.inr ⟨pfm, by rw [ec]; exact hx⟩)) (by (repeat' first | exact LSub.e | refine LSub.n ?_ | refine LSub.c ?_ ?_) <;> first | rfl | exact congrArg Sum.inl (by first | rfl | omega | (push_cast; omega)) | exact congrArg (fun z : Int => (vL z : AV)) (by first | rfl | omega | (push_cast; omega)))
            · have nfm : ¬ rfM g a i k (h1 57 16) := by
                simp only [rfM, rfP, rowP]
                simp only [hw0, hw1, hw2, hw3, hw4]
                omega
              refine AW.iload (pc' := 180) dX12_runs_178 rfl ?_
              refine AW.iret dX12_runs_180 ?_ ?_
              · refine congrArg (fun z : Int => (some (vI z) : Option AV)) ?_
                unfold rnD
                rw [if_neg nfm]
              · exact Or.inl ⟨nfm, rfl⟩
          · refine AW.iload (pc' := 89) dX12_runs_87 rfl ?_
            refine AW.iret dX12_runs_89 ?_ ?_
            · refine congrArg (fun z : Int => (some (vI z) : Option AV)) ?_
              unfold rnD
              rw [if_neg (fun w => absurd w (by simp only [rfM, rfP, rowP]; omega))]
            · exact Or.inl ⟨(fun w => absurd w (by simp only [rfM, rfP, rowP]; omega)), rfl⟩
set_option maxRecDepth 100000 in
set_option maxHeartbeats 4000000 in
theorem c_X12_runs {K : KT} {dep : Nat} {h : Hp} {a i n : Int} (hd : 2 ≤ dep) (qs : 0 ≤ h 57 16 ∧ h 57 16 ≤ 120) (qp : PSheM (h 86) (h 88)) (q2 : inI a) (q3 : inI i) (q4 : inI n) : AMp K yX12_runs cX12_runs 12 (some .int) dep [vR 57, vI a, vI i, vI n] h (some (vI (if ¬ ((0 ≤ a ∧ a < 6) ∧ 1 ≤ n ∧ n ≤ 12) then -1 else if h 86 a.toNat = -2 then 0 else if h 86 a.toNat ≠ 2 then -12 else rnD h a i n.toNat 0 (h 57 16)))) (fun x => ((¬ ((0 ≤ a ∧ a < 6) ∧ 1 ≤ n ∧ n ≤ 12) ∨ h 86 a.toNat ≠ 2) ∧ x = h) ∨ (¬ (¬ ((0 ≤ a ∧ a < 6) ∧ 1 ≤ n ∧ n ≤ 12)) ∧ h 86 a.toNat = 2 ∧ rnM h a i n.toNat 0 h x)) := by
  refine AM.of (own := RX12) (ls := [some (vR 57), some (vI a), some (vI i), some (vI n), none, none, none, none, none, none, none, none]) rfl (by decide +kernel) (by exact Nat.le_of_ble_eq_true rfl) rfl (fun hO => ?_)
  refine AW.iload_n (pc' := 1) dX12_runs_0 rfl ?_
  refine AW.invS1 (pc' := 4) dX12_runs_1 mlX12_360 mX12_isShelf (c_X12_isShelf (dep := dep - 1) (by first | assumption | omega | (constructor <;> omega) | (simp only [Int.toNat_natCast]; omega) | exact b2_in _)) ?_
  refine AW.ifb_eq (tgt := 17) (pc' := 7) dX12_runs_4 (fun c4 => ?_) (fun c4 => ?_)
  · refine AW.iconst (pc' := 18) dX12_runs_17 ?_
    refine AW.iret dX12_runs_18 ?_ ?_
    · refine congrArg (fun z : Int => (some (vI z) : Option AV)) ?_
      first | (rw [if_pos (by omega)]; done) | (rw [if_neg (by omega), if_pos (by omega)]; done) | (rw [if_neg (by omega), if_neg (by omega), if_pos (by omega)]; done)
    · exact Or.inl ⟨by omega, rfl⟩
  · refine AW.iload_n (pc' := 8) dX12_runs_7 rfl ?_
    refine AW.iconst (pc' := 9) dX12_runs_8 ?_
    refine AW.bipush (pc' := 11) dX12_runs_9 (by decide) ?_
    refine AW.invS3 (pc' := 14) dX12_runs_11 mlX12_117 mX12_isIn (c_X12_isIn (dep := dep - 1) (by first | assumption | omega | (constructor <;> omega) | (simp only [Int.toNat_natCast]; omega) | exact b2_in _) (by first | assumption | omega | (constructor <;> omega) | (simp only [Int.toNat_natCast]; omega) | exact b2_in _) (by first | assumption | omega | (constructor <;> omega) | (simp only [Int.toNat_natCast]; omega) | exact b2_in _)) ?_
    refine AW.ifb_ne (tgt := 19) (pc' := 17) dX12_runs_14 (fun c14 => ?_) (fun c14 => ?_)
    · refine AW.aload_n (pc' := 20) dX12_runs_19 rfl ?_
      refine AW.getR (pc' := 23) dX12_runs_20 ly_57 fX12_98 rfl ?_
      refine AW.iload_n (pc' := 24) dX12_runs_23 rfl ?_
      first | refine AW.ialdN (pc' := 25) dX12_runs_24 ly_86 (by first | assumption | omega | (constructor <;> omega) | (simp only [Int.toNat_natCast]; omega) | exact b2_in _) (by decide) (fun r24 => ?_) | refine AW.iald (pc' := 25) dX12_runs_24 ly_86 (by first | assumption | omega | (constructor <;> omega) | (simp only [Int.toNat_natCast]; omega) | exact b2_in _) (by first | assumption | omega | (constructor <;> omega) | (simp only [Int.toNat_natCast]; omega) | exact b2_in _) (by decide) (fun r24 => ?_)
      refine AW.bipush (pc' := 27) dX12_runs_25 (by decide) ?_
      refine AW.icmp_ne (tgt := 32) (pc' := 30) dX12_runs_27 (by first | assumption | omega | (constructor <;> omega) | (simp only [Int.toNat_natCast]; omega) | exact b2_in _) (by first | assumption | omega | (constructor <;> omega) | (simp only [Int.toNat_natCast]; omega) | exact b2_in _) (fun c27 => ?_) (fun c27 => ?_)
      · refine AW.aload_n (pc' := 33) dX12_runs_32 rfl ?_
        refine AW.getR (pc' := 36) dX12_runs_33 ly_57 fX12_98 rfl ?_
        refine AW.iload_n (pc' := 37) dX12_runs_36 rfl ?_
        first | refine AW.ialdN (pc' := 38) dX12_runs_37 ly_86 (by first | assumption | omega | (constructor <;> omega) | (simp only [Int.toNat_natCast]; omega) | exact b2_in _) (by decide) (fun r37 => ?_) | refine AW.iald (pc' := 38) dX12_runs_37 ly_86 (by first | assumption | omega | (constructor <;> omega) | (simp only [Int.toNat_natCast]; omega) | exact b2_in _) (by first | assumption | omega | (constructor <;> omega) | (simp only [Int.toNat_natCast]; omega) | exact b2_in _) (by decide) (fun r37 => ?_)
        refine AW.iconst (pc' := 39) dX12_runs_38 ?_
        refine AW.icmp_eq (tgt := 45) (pc' := 42) dX12_runs_39 (by first | assumption | omega | (constructor <;> omega) | (simp only [Int.toNat_natCast]; omega) | exact b2_in _) (by first | assumption | omega | (constructor <;> omega) | (simp only [Int.toNat_natCast]; omega) | exact b2_in _) (fun c39 => ?_) (fun c39 => ?_)
        · refine AW.iconst (pc' := 46) dX12_runs_45 ?_
          refine AW.istore4 (pc' := 48) dX12_runs_46 (by decide) rfl ?_
          refine AW.iconst (pc' := 49) dX12_runs_48 ?_
          refine AW.istore5 (pc' := 51) dX12_runs_49 (by decide) rfl ?_
          have ql := (qp a.toNat (by omega)).2.2
          rw [if_neg (by omega), if_neg (by omega), if_neg (by omega)]
          have y := lp_X12_runs (K := K) (dep := dep) (g := h) (a := a) (i := i) (n := n) (by omega) (by omega) ql (by omega) (by omega) n.toNat 0 h (by omega) EP.rf qs
          exact AW.weak (AW.post y (fun x hx => Or.inr ⟨by omega, by omega, hx⟩)) (by (repeat' first | exact LSub.e | refine LSub.n ?_ | refine LSub.c ?_ ?_) <;> first | rfl | exact congrArg Sum.inl (by first | rfl | omega | omega) | exact congrArg (fun z : Int => (vL z : AV)) (by first | rfl | omega | omega))
        · refine AW.bipush (pc' := 44) dX12_runs_42 (by decide) ?_
          refine AW.iret dX12_runs_44 ?_ ?_
          · refine congrArg (fun z : Int => (some (vI z) : Option AV)) ?_
            first | (rw [if_pos (by omega)]; done) | (rw [if_neg (by omega), if_pos (by omega)]; done) | (rw [if_neg (by omega), if_neg (by omega), if_pos (by omega)]; done)
          · exact Or.inl ⟨by omega, rfl⟩
      · refine AW.iconst (pc' := 31) dX12_runs_30 ?_
        refine AW.iret dX12_runs_31 ?_ ?_
        · refine congrArg (fun z : Int => (some (vI z) : Option AV)) ?_
          first | (rw [if_pos (by omega)]; done) | (rw [if_neg (by omega), if_pos (by omega)]; done) | (rw [if_neg (by omega), if_neg (by omega), if_pos (by omega)]; done)
        · exact Or.inl ⟨by omega, rfl⟩
    · refine AW.iconst (pc' := 18) dX12_runs_17 ?_
      refine AW.iret dX12_runs_18 ?_ ?_
      · refine congrArg (fun z : Int => (some (vI z) : Option AV)) ?_
        first | (rw [if_pos (by omega)]; done) | (rw [if_neg (by omega), if_pos (by omega)]; done) | (rw [if_neg (by omega), if_neg (by omega), if_pos (by omega)]; done)
      · exact Or.inl ⟨by omega, rfl⟩
