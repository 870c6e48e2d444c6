/-! laws: the reference's reader, walked -/
def nuM (B : Nat → Int) (E : Int) : Nat → Int → Int → Int × Int
  | 0, v, a => (v, a)
  | n + 1, v, a => if a < E ∧ 48 ≤ B a.toNat ∧ B a.toNat ≤ 57 then nuM B E n (10 * v + B a.toNat - 48) (a + 1) else (v, a)
theorem nuM_in {B : Nat → Int} {E : Int} : ∀ (n : Nat) (v a : Int), a ≤ E → a ≤ (nuM B E n v a).2 ∧ (nuM B E n v a).2 ≤ E
  | 0, v, a, h => ⟨Int.le_refl _, h⟩
  | n + 1, v, a, h => by
    unfold nuM
    split
    · have := nuM_in (B := B) (E := E) n (10 * v + B a.toNat - 48) (a + 1) (by omega)
      omega
    · exact ⟨Int.le_refl _, h⟩
abbrev RS : Type := Int × (List Int × (List Int × (Int × (List Int × Int))))
def MSt (g : Hp) (base : Nat) (s : RS) (x : Hp) : Prop := MS g base s.1 s.2.1 s.2.2.1 s.2.2.2.1 s.2.2.2.2.1 s.2.2.2.2.2 x
def wantF (B : Nat → Int) (E A : Int) (P T : List Int) (O : Int) (S : List Int) (C b : Int) : Int × RS :=
  if 48 ≤ b ∧ b ≤ 57 then (1, ((nuM B E 4 0 A).2, ((bnd P ((1000 + (nuM B E 4 0 A).1) :: T) O).1, ((bnd P ((1000 + (nuM B E 4 0 A).1) :: T) O).2.1, ((bnd P ((1000 + (nuM B E 4 0 A).1) :: T) O).2.2, (S, C))))))
  else if nmP b then (1, (A + 1, ((bnd P (b :: T) O).1, ((bnd P (b :: T) O).2.1, ((bnd P (b :: T) O).2.2, (S, C))))))
  else if ¬ (b = 33 ∨ b = 45 ∨ b = 40) ∨ O = 6 then (-1, (A, (P, (T, (O, (S, C))))))
  else (0, (A + 1, ((if b = 45 then 95 else b) :: P, (T, (O + 1, (if b = 40 then 0 :: S else S, C))))))
def clF (A : Int) (P T : List Int) (O : Int) (S : List Int) (C : Int) : RS :=
  (A + 1, ((bnd (stl 0 P T).1.tail (stl 0 P T).2 (O - 1)).1, ((bnd (stl 0 P T).1.tail (stl 0 P T).2 (O - 1)).2.1, ((bnd (stl 0 P T).1.tail (stl 0 P T).2 (O - 1)).2.2, (S, C)))))
def behF (A : Int) (P T : List Int) (O s : Int) (S : List Int) (C b : Int) : Int × RS :=
  if b = 41 then (if S = [] then (-1, (A, (P, (T, (O, (s :: S, C)))))) else (0, clF A P T O S C))
  else if b = 63 ∨ b = 59 then (if S ≠ [] ∨ b = 63 ∧ C = 1 then (-1, (A, (P, (T, (O, (s :: S, C)))))) else (1, (A + 1, ((stl 0 P T).1, ((if b = 63 then 900 else 901) :: (stl 0 P T).2, (O, (0 :: S, if b = 63 then 1 else 0)))))))
  else if strF b = 0 ∨ strF b = 3 ∧ s = 1 then (-1, (A, (P, (T, (O, (s :: S, C))))))
  else (1, (A + 1, (b :: (stl (strF b) P T).1, ((stl (strF b) P T).2, (O, ((if strF b < 3 then 0 else if strF b = 3 then 1 else s) :: S, C))))))
def WFr (E : Int) (s : RS) : Prop := 0 ≤ s.1 ∧ s.1 ≤ E ∧ E ≤ 120 ∧ ((s.2.1.length + s.2.2.1.length : Nat) : Int) ≤ s.1 ∧ (cU s.2.1 : Int) ≤ s.2.2.2.1 ∧ s.2.2.2.1 ≤ 6 ∧ cP s.2.1 + 1 = s.2.2.2.2.1.length ∧ 0 ≤ s.2.2.2.2.2 ∧ s.2.2.2.2.2 ≤ 1
theorem cP_le : ∀ P : List Int, cP P ≤ P.length
  | [] => Nat.le_refl _
  | p :: P => by
    have := cP_le P
    show (if p = 40 then 1 else 0) + cP P ≤ P.length + 1
    split <;> omega
theorem p10 (k : Nat) (h : k ≤ 4) : (10 : Int) ^ k ≤ 10000 := by
  have : k = 0 ∨ k = 1 ∨ k = 2 ∨ k = 3 ∨ k = 4 := by omega
  rcases this with rfl | rfl | rfl | rfl | rfl <;> decide
set_option maxRecDepth 100000 in
set_option maxHeartbeats 4000000 in
theorem lp_X12_wanted {K : KT} {X : XT} {dep : Nat} {g : Hp} {base : Nat} {O C b : Int} {P T S : List Int} (q29 : g 57 29 ≤ 120) (hd : 1 ≤ dep) : ∀ (n k : Nat) (v A : Int) (h1 : Hp), k + n = 4 → MS g base A P T O S C h1 → 0 ≤ A → 0 ≤ v → v + 1 ≤ 10 ^ k → (∀ h2 : Hp, MS g base (nuM (g 75) (g 57 29) n v A).2 P T O S C h2 → 0 ≤ (nuM (g 75) (g 57 29) n v A).1 → (nuM (g 75) (g 57 29) n v A).1 ≤ 9999 → AW K X RX12 cX12_wanted 4 (some .int) dep 84 [some (vR 57), some (vI (b)), some (vI ((nuM (g 75) (g 57 29) n v A).1)), none] [] h2) → AW K X RX12 cX12_wanted 4 (some .int) dep 15 [some (vR 57), some (vI (b)), some (vI (v)), some (vI ((k : Int)))] [] h1 := by
  intro n
  induction n with
  | zero =>
    intro k v A h1 hk ms hA v0 v1 kk
    have pk := p10 k (by omega)
    have e29 : h1 57 29 = g 57 29 := ms.2.1 29 (Or.inl (by decide))
    refine AW.iload_n (pc' := 16) dX12_wanted_15 rfl ?_
    refine AW.iconst (pc' := 17) dX12_wanted_16 ?_
    refine AW.icmp_ge (tgt := 84) (pc' := 20) dX12_wanted_17 (by first | assumption | omega | (constructor <;> omega) | (simp only [Int.toNat_natCast]; omega) | exact b2_in _) (by first | assumption | omega | (constructor <;> omega) | (simp only [Int.toNat_natCast]; omega) | exact b2_in _) (fun c17 => ?_) (fun c17 => ?_)
    · exact AW.weak (kk h1 ms v0 (by show v ≤ 9999; omega)) (by (repeat' first | exact LSub.e | refine LSub.n ?_ | refine LSub.c ?_ ?_) <;> first | rfl | exact congrArg Sum.inl (by first | rfl | omega | omega) | exact congrArg (fun z : Int => (vL z : AV)) (by first | rfl | omega | omega))
    · omega
  | succ n ih =>
    intro k v A h1 hk ms hA v0 v1 kk
    have pk := p10 k (by omega)
    have e29 : h1 57 29 = g 57 29 := ms.2.1 29 (Or.inl (by decide))
    have e75 : h1 75 = g 75 := ms.1 75 rfl
    have a3 : h1 57 31 = A := ms.2.2.1
    refine AW.iload_n (pc' := 16) dX12_wanted_15 rfl ?_
    refine AW.iconst (pc' := 17) dX12_wanted_16 ?_
    refine AW.icmp_ge (tgt := 84) (pc' := 20) dX12_wanted_17 (by first | assumption | omega | (constructor <;> omega) | (simp only [Int.toNat_natCast]; omega) | exact b2_in _) (by first | assumption | omega | (constructor <;> omega) | (simp only [Int.toNat_natCast]; omega) | exact b2_in _) (fun c17 => ?_) (fun c17 => ?_)
    · omega
    · refine AW.aload_n (pc' := 21) dX12_wanted_20 rfl ?_
      refine AW.getI (pc' := 24) dX12_wanted_21 ly_57 fX12_200 rfl (fun r21 => ?_)
      try simp only [a3, e75, e29] at r21 ⊢
      refine AW.aload_n (pc' := 25) dX12_wanted_24 rfl ?_
      refine AW.getI (pc' := 28) dX12_wanted_25 ly_57 fX12_181 rfl (fun r25 => ?_)
      try simp only [a3, e75, e29] at r25 ⊢
      refine AW.icmp_ge (tgt := 84) (pc' := 31) dX12_wanted_28 (by first | assumption | omega | (constructor <;> omega) | (simp only [Int.toNat_natCast]; omega) | exact b2_in _) (by first | assumption | omega | (constructor <;> omega) | (simp only [Int.toNat_natCast]; omega) | exact b2_in _) (fun c28 => ?_) (fun c28 => ?_)
      · have z : nuM (g 75) (g 57 29) (n + 1) v A = (v, A) := by
          conv => lhs; unfold nuM
          rw [if_neg (by omega)]
        rw [z] at kk
        exact AW.weak (kk h1 ms v0 (by show v ≤ 9999; omega)) (by (repeat' first | exact LSub.e | refine LSub.n ?_ | refine LSub.c ?_ ?_) <;> first | rfl | exact congrArg Sum.inl (by first | rfl | omega | omega) | exact congrArg (fun z : Int => (vL z : AV)) (by first | rfl | omega | omega))
      · refine AW.aload_n (pc' := 32) dX12_wanted_31 rfl ?_
        refine AW.getR (pc' := 35) dX12_wanted_32 ly_57 fX12_65 rfl ?_
        refine AW.aload_n (pc' := 36) dX12_wanted_35 rfl ?_
        refine AW.getI (pc' := 39) dX12_wanted_36 ly_57 fX12_200 rfl (fun r36 => ?_)
        try simp only [a3, e75, e29] at r36 ⊢
        first | refine AW.ialdN (pc' := 40) dX12_wanted_39 ly_75 (by first | assumption | omega | (constructor <;> omega) | (simp only [Int.toNat_natCast]; omega) | exact b2_in _) (by decide) (fun r39 => ?_) | refine AW.iald (pc' := 40) dX12_wanted_39 ly_75 (by first | assumption | omega | (constructor <;> omega) | (simp only [Int.toNat_natCast]; omega) | exact b2_in _) (by first | assumption | omega | (constructor <;> omega) | (simp only [Int.toNat_natCast]; omega) | exact b2_in _) (by decide) (fun r39 => ?_)
        try simp only [a3, e75, e29] at r39 ⊢
        refine AW.bipush (pc' := 42) dX12_wanted_40 (by decide) ?_
        refine AW.bipush (pc' := 44) dX12_wanted_42 (by decide) ?_
        refine AW.invS3 (pc' := 47) dX12_wanted_44 mlX12_117 mX12_isIn (c_X12_isIn (dep := dep - 1) (by first | assumption | omega | (constructor <;> omega) | (simp only [Int.toNat_natCast]; omega) | exact b2_in _) (by first | assumption | omega | (constructor <;> omega) | (simp only [Int.toNat_natCast]; omega) | exact b2_in _) (by first | assumption | omega | (constructor <;> omega) | (simp only [Int.toNat_natCast]; omega) | exact b2_in _)) ?_
        try simp only [Int.toNat_natCast, a3, e75, e29]
        refine AW.ifb_eq (tgt := 84) (pc' := 50) dX12_wanted_47 (fun c47 => ?_) (fun c47 => ?_)
        · have z : nuM (g 75) (g 57 29) (n + 1) v A = (v, A) := by
            conv => lhs; unfold nuM
            rw [if_neg (by omega)]
          rw [z] at kk
          exact AW.weak (kk h1 ms v0 (by show v ≤ 9999; omega)) (by (repeat' first | exact LSub.e | refine LSub.n ?_ | refine LSub.c ?_ ?_) <;> first | rfl | exact congrArg Sum.inl (by first | rfl | omega | omega) | exact congrArg (fun z : Int => (vL z : AV)) (by first | rfl | omega | omega))
        · refine AW.bipush (pc' := 52) dX12_wanted_50 (by decide) ?_
          refine AW.iload_n (pc' := 53) dX12_wanted_52 rfl ?_
          refine AW.imul (pc' := 54) dX12_wanted_53 ?_
          refine AW.aload_n (pc' := 55) dX12_wanted_54 rfl ?_
          refine AW.getR (pc' := 58) dX12_wanted_55 ly_57 fX12_65 rfl ?_
          refine AW.aload_n (pc' := 59) dX12_wanted_58 rfl ?_
          refine AW.getI (pc' := 62) dX12_wanted_59 ly_57 fX12_200 rfl (fun r59 => ?_)
          try simp only [a3, e75, e29] at r59 ⊢
          first | refine AW.ialdN (pc' := 63) dX12_wanted_62 ly_75 (by first | assumption | omega | (constructor <;> omega) | (simp only [Int.toNat_natCast]; omega) | exact b2_in _) (by decide) (fun r62 => ?_) | refine AW.iald (pc' := 63) dX12_wanted_62 ly_75 (by first | assumption | omega | (constructor <;> omega) | (simp only [Int.toNat_natCast]; omega) | exact b2_in _) (by first | assumption | omega | (constructor <;> omega) | (simp only [Int.toNat_natCast]; omega) | exact b2_in _) (by decide) (fun r62 => ?_)
          try simp only [a3, e75, e29] at r62 ⊢
          refine AW.iadd (pc' := 64) dX12_wanted_63 ?_
          refine AW.bipush (pc' := 66) dX12_wanted_64 (by decide) ?_
          refine AW.isub (pc' := 67) dX12_wanted_66 ?_
          refine AW.istore2n (pc' := 68) dX12_wanted_67 (by decide) rfl ?_
          refine AW.aload_n (pc' := 69) dX12_wanted_68 rfl ?_
          refine AW.dup (pc' := 70) dX12_wanted_69 rfl ?_
          refine AW.getI (pc' := 73) dX12_wanted_70 ly_57 fX12_200 rfl (fun r70 => ?_)
          try simp only [a3, e75, e29] at r70 ⊢
          refine AW.iconst (pc' := 74) dX12_wanted_73 ?_
          refine AW.iadd (pc' := 75) dX12_wanted_74 ?_
          refine AW.putI (pc' := 78) dX12_wanted_75 ly_57 pX12_200 rfl (by first | assumption | omega | (constructor <;> omega) | (simp only [Int.toNat_natCast]; omega) | exact b2_in _) ?_
          refine AW.iinc3 (pc' := 81) dX12_wanted_78 (by decide) rfl ?_
          refine AW.goto (tgt := 15) dX12_wanted_81 ?_
          have z : nuM (g 75) (g 57 29) (n + 1) v A = nuM (g 75) (g 57 29) n (10 * v + g 75 A.toNat - 48) (A + 1) := by
            conv => lhs; unfold nuM
            rw [if_pos (by omega)]
          rw [z] at kk
          exact AW.weak (ih (k + 1) _ _ _ (by omega) (ms.at (A + 1)) (by omega) (by omega) (by rw [Int.pow_succ]; omega) kk) (by (repeat' first | exact LSub.e | refine LSub.n ?_ | refine LSub.c ?_ ?_) <;> first | rfl | exact congrArg Sum.inl (by first | rfl | omega | (push_cast; omega)) | exact congrArg (fun z : Int => (vL z : AV)) (by first | rfl | omega | (push_cast; omega)))
set_option maxRecDepth 100000 in
set_option maxHeartbeats 4000000 in
theorem c_X12_wanted {K : KT} {dep : Nat} {h : Hp} {g : Hp} {base : Nat} {A O C : Int} {P T S : List Int} {b : Int} (hd : 2 ≤ dep) (ms : MS g base A P T O S C h) (qw : WFr (h 57 29) (A, (P, (T, (O, (S, C)))))) (qb : base ≤ 400) (q3 : inI b) : AMp K yX12_wanted cX12_wanted 4 (some .int) dep [vR 57, vI b] h (some (vI (wantF (h 75) (h 57 29) A P T O S C b).1)) (fun x => MSt g base (wantF (h 75) (h 57 29) A P T O S C b).2 x) := by
  refine AM.of (own := RX12) (ls := [some (vR 57), some (vI b), none, none]) rfl (by decide +kernel) (by exact Nat.le_of_ble_eq_true rfl) rfl (fun hO => ?_)
  have ms2 := ms
  obtain ⟨a1, a2, a3, a4, a5, a6, a7, a8, -⟩ := ms2
  have e29 : h 57 29 = g 57 29 := a2 29 (Or.inl (by decide))
  have e75 : h 75 = g 75 := a1 75 rfl
  have qw2 := qw
  obtain ⟨w1, w2, w3, w4, w5, w6, w7, w8, w9⟩ := qw2
  simp only at w1 w2 w4 w5 w6 w7 w8 w9
  have cpl := cP_le P
  refine AW.iload_n (pc' := 1) dX12_wanted_0 rfl ?_
  refine AW.bipush (pc' := 3) dX12_wanted_1 (by decide) ?_
  refine AW.bipush (pc' := 5) dX12_wanted_3 (by decide) ?_
  refine AW.invS3 (pc' := 8) dX12_wanted_5 mlX12_117 mX12_isIn (c_X12_isIn (dep := dep - 1) (by first | assumption | omega | (constructor <;> omega) | (simp only [Int.toNat_natCast]; omega) | exact b2_in _) (by first | assumption | omega | (constructor <;> omega) | (simp only [Int.toNat_natCast]; omega) | exact b2_in _) (by first | assumption | omega | (constructor <;> omega) | (simp only [Int.toNat_natCast]; omega) | exact b2_in _)) ?_
  refine AW.ifb_eq (tgt := 99) (pc' := 11) dX12_wanted_8 (fun c8 => ?_) (fun c8 => ?_)
  · refine AW.iload_n (pc' := 100) dX12_wanted_99 rfl ?_
    refine AW.invS1 (pc' := 103) dX12_wanted_100 mlX12_206 mX12_isName (c_X12_isName (dep := dep - 1) (by first | assumption | omega | (constructor <;> omega) | (simp only [Int.toNat_natCast]; omega) | exact b2_in _)) ?_
    refine AW.ifb_eq (tgt := 127) (pc' := 106) dX12_wanted_103 (fun c103 => ?_) (fun c103 => ?_)
    · refine AW.iload_n (pc' := 128) dX12_wanted_127 rfl ?_
      refine AW.bipush (pc' := 130) dX12_wanted_128 (by decide) ?_
      refine AW.icmp_eq (tgt := 145) (pc' := 133) dX12_wanted_130 (by first | assumption | omega | (constructor <;> omega) | (simp only [Int.toNat_natCast]; omega) | exact b2_in _) (by first | assumption | omega | (constructor <;> omega) | (simp only [Int.toNat_natCast]; omega) | exact b2_in _) (fun c130 => ?_) (fun c130 => ?_)
      · 
        refine AW.aload_n (pc' := 146) dX12_wanted_145 rfl ?_
        refine AW.getI (pc' := 149) dX12_wanted_146 ly_57 fX12_197 rfl (fun r146 => ?_)
        refine AW.bipush (pc' := 151) dX12_wanted_149 (by decide) ?_
        refine AW.icmp_ne (tgt := 156) (pc' := 154) dX12_wanted_151 (by first | assumption | omega | (constructor <;> omega) | (simp only [Int.toNat_natCast]; omega) | exact b2_in _) (by first | assumption | omega | (constructor <;> omega) | (simp only [Int.toNat_natCast]; omega) | exact b2_in _) (fun c151 => ?_) (fun c151 => ?_)
        · refine AW.aload_n (pc' := 157) dX12_wanted_156 rfl ?_
          refine AW.getR (pc' := 160) dX12_wanted_157 ly_57 fX12_74 rfl ?_
          refine AW.aload_n (pc' := 161) dX12_wanted_160 rfl ?_
          refine AW.getI (pc' := 164) dX12_wanted_161 ly_57 fX12_187 rfl (fun r161 => ?_)
          refine AW.iload_n (pc' := 165) dX12_wanted_164 rfl ?_
          refine AW.bipush (pc' := 167) dX12_wanted_165 (by decide) ?_
          refine AW.icmp_ne (tgt := 175) (pc' := 170) dX12_wanted_167 (by first | assumption | omega | (constructor <;> omega) | (simp only [Int.toNat_natCast]; omega) | exact b2_in _) (by first | assumption | omega | (constructor <;> omega) | (simp only [Int.toNat_natCast]; omega) | exact b2_in _) (fun c167 => ?_) (fun c167 => ?_)
          · refine AW.iload_n (pc' := 176) dX12_wanted_175 rfl ?_
            first | refine AW.iastN (pc' := 177) dX12_wanted_176 ly_78 (by first | assumption | omega | (constructor <;> omega) | (simp only [Int.toNat_natCast]; omega) | exact b2_in _) (by decide) (by first | assumption | omega | (constructor <;> omega) | (simp only [Int.toNat_natCast]; omega) | exact b2_in _) ?_ | refine AW.iast (pc' := 177) dX12_wanted_176 ly_78 (by first | assumption | omega | (constructor <;> omega) | (simp only [Int.toNat_natCast]; omega) | exact b2_in _) (by first | assumption | omega | (constructor <;> omega) | (simp only [Int.toNat_natCast]; omega) | exact b2_in _) (by decide) (by first | assumption | omega | (constructor <;> omega) | (simp only [Int.toNat_natCast]; omega) | exact b2_in _) ?_
            refine AW.aload_n (pc' := 178) dX12_wanted_177 rfl ?_
            refine AW.dup (pc' := 179) dX12_wanted_178 rfl ?_
            refine AW.getI (pc' := 182) dX12_wanted_179 ly_57 fX12_187 rfl (fun r179 => ?_)
            try simp only [hset_app, Nat.reduceEqDiff, false_and, and_false, true_and, and_true, reduceIte] at r179 ⊢
            refine AW.iconst (pc' := 183) dX12_wanted_182 ?_
            refine AW.iadd (pc' := 184) dX12_wanted_183 ?_
            refine AW.putI (pc' := 187) dX12_wanted_184 ly_57 pX12_187 rfl (by first | assumption | omega | (constructor <;> omega) | (simp only [Int.toNat_natCast]; omega) | exact b2_in _) ?_
            refine AW.aload_n (pc' := 188) dX12_wanted_187 rfl ?_
            refine AW.dup (pc' := 189) dX12_wanted_188 rfl ?_
            refine AW.getI (pc' := 192) dX12_wanted_189 ly_57 fX12_197 rfl (fun r189 => ?_)
            try simp only [hset_app, Nat.reduceEqDiff, false_and, and_false, true_and, and_true, reduceIte] at r189 ⊢
            refine AW.iconst (pc' := 193) dX12_wanted_192 ?_
            refine AW.iadd (pc' := 194) dX12_wanted_193 ?_
            refine AW.putI (pc' := 197) dX12_wanted_194 ly_57 pX12_197 rfl (by first | assumption | omega | (constructor <;> omega) | (simp only [Int.toNat_natCast]; omega) | exact b2_in _) ?_
            refine AW.aload_n (pc' := 198) dX12_wanted_197 rfl ?_
            refine AW.dup (pc' := 199) dX12_wanted_198 rfl ?_
            refine AW.getI (pc' := 202) dX12_wanted_199 ly_57 fX12_200 rfl (fun r199 => ?_)
            try simp only [hset_app, Nat.reduceEqDiff, false_and, and_false, true_and, and_true, reduceIte] at r199 ⊢
            refine AW.iconst (pc' := 203) dX12_wanted_202 ?_
            refine AW.iadd (pc' := 204) dX12_wanted_203 ?_
            refine AW.putI (pc' := 207) dX12_wanted_204 ly_57 pX12_200 rfl (by first | assumption | omega | (constructor <;> omega) | (simp only [Int.toNat_natCast]; omega) | exact b2_in _) ?_
            refine AW.iload_n (pc' := 208) dX12_wanted_207 rfl ?_
            refine AW.bipush (pc' := 210) dX12_wanted_208 (by decide) ?_
            refine AW.icmp_ne (tgt := 233) (pc' := 213) dX12_wanted_210 (by first | assumption | omega | (constructor <;> omega) | (simp only [Int.toNat_natCast]; omega) | exact b2_in _) (by first | assumption | omega | (constructor <;> omega) | (simp only [Int.toNat_natCast]; omega) | exact b2_in _) (fun c210 => ?_) (fun c210 => ?_)
            · refine AW.iconst (pc' := 234) dX12_wanted_233 ?_
              refine AW.iret dX12_wanted_234 ?_ ?_
              · refine congrArg (fun z : Int => (some (vI z) : Option AV)) ?_
                unfold wantF
                rw [if_neg (by omega), if_neg (by omega), if_neg (by omega)]
              · unfold wantF
                rw [if_neg (by omega), if_neg (by omega), if_neg (by omega)]
                first
                | (exfalso; omega)
                | (have e40 : b = 40 := by omega
                   subst e40
                   simp only [Int.reduceEq, reduceIte]
                   rw [← a3, ← a6]
                   exact (((ms.push _).opn _).at _).spush 0)
                | (have e40 : b ≠ 40 := by omega
                   simp only [if_neg e40]
                   first | rw [if_pos (by omega)] | rw [if_neg (by omega)]
                   rw [← a3, ← a6]
                   exact ((ms.push _).opn _).at _)
            · refine AW.aload_n (pc' := 214) dX12_wanted_213 rfl ?_
              refine AW.dup (pc' := 215) dX12_wanted_214 rfl ?_
              refine AW.getI (pc' := 218) dX12_wanted_215 ly_57 fX12_209 rfl (fun r215 => ?_)
              try simp only [hset_app, Nat.reduceEqDiff, false_and, and_false, true_and, and_true, reduceIte] at r215 ⊢
              refine AW.iconst (pc' := 219) dX12_wanted_218 ?_
              refine AW.iadd (pc' := 220) dX12_wanted_219 ?_
              refine AW.putI (pc' := 223) dX12_wanted_220 ly_57 pX12_209 rfl (by first | assumption | omega | (constructor <;> omega) | (simp only [Int.toNat_natCast]; omega) | exact b2_in _) ?_
              refine AW.aload_n (pc' := 224) dX12_wanted_223 rfl ?_
              refine AW.getR (pc' := 227) dX12_wanted_224 ly_57 fX12_77 rfl ?_
              refine AW.aload_n (pc' := 228) dX12_wanted_227 rfl ?_
              refine AW.getI (pc' := 231) dX12_wanted_228 ly_57 fX12_209 rfl (fun r228 => ?_)
              try simp only [hset_app, Nat.reduceEqDiff, false_and, and_false, true_and, and_true, reduceIte] at r228 ⊢
              refine AW.iconst (pc' := 232) dX12_wanted_231 ?_
              first | refine AW.iastN (pc' := 233) dX12_wanted_232 ly_79 (by first | assumption | omega | (constructor <;> omega) | (simp only [Int.toNat_natCast]; omega) | exact b2_in _) (by decide) (by first | assumption | omega | (constructor <;> omega) | (simp only [Int.toNat_natCast]; omega) | exact b2_in _) ?_ | refine AW.iast (pc' := 233) dX12_wanted_232 ly_79 (by first | assumption | omega | (constructor <;> omega) | (simp only [Int.toNat_natCast]; omega) | exact b2_in _) (by first | assumption | omega | (constructor <;> omega) | (simp only [Int.toNat_natCast]; omega) | exact b2_in _) (by decide) (by first | assumption | omega | (constructor <;> omega) | (simp only [Int.toNat_natCast]; omega) | exact b2_in _) ?_
              refine AW.iconst (pc' := 234) dX12_wanted_233 ?_
              refine AW.iret dX12_wanted_234 ?_ ?_
              · refine congrArg (fun z : Int => (some (vI z) : Option AV)) ?_
                unfold wantF
                rw [if_neg (by omega), if_neg (by omega), if_neg (by omega)]
              · unfold wantF
                rw [if_neg (by omega), if_neg (by omega), if_neg (by omega)]
                first
                | (exfalso; omega)
                | (have e40 : b = 40 := by omega
                   subst e40
                   simp only [Int.reduceEq, reduceIte]
                   rw [← a3, ← a6]
                   exact (((ms.push _).opn _).at _).spush 0)
                | (have e40 : b ≠ 40 := by omega
                   simp only [if_neg e40]
                   first | rw [if_pos (by omega)] | rw [if_neg (by omega)]
                   rw [← a3, ← a6]
                   exact ((ms.push _).opn _).at _)
          · refine AW.bipush (pc' := 172) dX12_wanted_170 (by decide) ?_
            refine AW.goto (tgt := 176) dX12_wanted_172 ?_
            first | refine AW.iastN (pc' := 177) dX12_wanted_176 ly_78 (by first | assumption | omega | (constructor <;> omega) | (simp only [Int.toNat_natCast]; omega) | exact b2_in _) (by decide) (by first | assumption | omega | (constructor <;> omega) | (simp only [Int.toNat_natCast]; omega) | exact b2_in _) ?_ | refine AW.iast (pc' := 177) dX12_wanted_176 ly_78 (by first | assumption | omega | (constructor <;> omega) | (simp only [Int.toNat_natCast]; omega) | exact b2_in _) (by first | assumption | omega | (constructor <;> omega) | (simp only [Int.toNat_natCast]; omega) | exact b2_in _) (by decide) (by first | assumption | omega | (constructor <;> omega) | (simp only [Int.toNat_natCast]; omega) | exact b2_in _) ?_
            refine AW.aload_n (pc' := 178) dX12_wanted_177 rfl ?_
            refine AW.dup (pc' := 179) dX12_wanted_178 rfl ?_
            refine AW.getI (pc' := 182) dX12_wanted_179 ly_57 fX12_187 rfl (fun r179 => ?_)
            try simp only [hset_app, Nat.reduceEqDiff, false_and, and_false, true_and, and_true, reduceIte] at r179 ⊢
            refine AW.iconst (pc' := 183) dX12_wanted_182 ?_
            refine AW.iadd (pc' := 184) dX12_wanted_183 ?_
            refine AW.putI (pc' := 187) dX12_wanted_184 ly_57 pX12_187 rfl (by first | assumption | omega | (constructor <;> omega) | (simp only [Int.toNat_natCast]; omega) | exact b2_in _) ?_
            refine AW.aload_n (pc' := 188) dX12_wanted_187 rfl ?_
            refine AW.dup (pc' := 189) dX12_wanted_188 rfl ?_
            refine AW.getI (pc' := 192) dX12_wanted_189 ly_57 fX12_197 rfl (fun r189 => ?_)
            try simp only [hset_app, Nat.reduceEqDiff, false_and, and_false, true_and, and_true, reduceIte] at r189 ⊢
            refine AW.iconst (pc' := 193) dX12_wanted_192 ?_
            refine AW.iadd (pc' := 194) dX12_wanted_193 ?_
            refine AW.putI (pc' := 197) dX12_wanted_194 ly_57 pX12_197 rfl (by first | assumption | omega | (constructor <;> omega) | (simp only [Int.toNat_natCast]; omega) | exact b2_in _) ?_
            refine AW.aload_n (pc' := 198) dX12_wanted_197 rfl ?_
            refine AW.dup (pc' := 199) dX12_wanted_198 rfl ?_
            refine AW.getI (pc' := 202) dX12_wanted_199 ly_57 fX12_200 rfl (fun r199 => ?_)
            try simp only [hset_app, Nat.reduceEqDiff, false_and, and_false, true_and, and_true, reduceIte] at r199 ⊢
            refine AW.iconst (pc' := 203) dX12_wanted_202 ?_
            refine AW.iadd (pc' := 204) dX12_wanted_203 ?_
            refine AW.putI (pc' := 207) dX12_wanted_204 ly_57 pX12_200 rfl (by first | assumption | omega | (constructor <;> omega) | (simp only [Int.toNat_natCast]; omega) | exact b2_in _) ?_
            refine AW.iload_n (pc' := 208) dX12_wanted_207 rfl ?_
            refine AW.bipush (pc' := 210) dX12_wanted_208 (by decide) ?_
            refine AW.icmp_ne (tgt := 233) (pc' := 213) dX12_wanted_210 (by first | assumption | omega | (constructor <;> omega) | (simp only [Int.toNat_natCast]; omega) | exact b2_in _) (by first | assumption | omega | (constructor <;> omega) | (simp only [Int.toNat_natCast]; omega) | exact b2_in _) (fun c210 => ?_) (fun c210 => ?_)
            · refine AW.iconst (pc' := 234) dX12_wanted_233 ?_
              refine AW.iret dX12_wanted_234 ?_ ?_
              · refine congrArg (fun z : Int => (some (vI z) : Option AV)) ?_
                unfold wantF
                rw [if_neg (by omega), if_neg (by omega), if_neg (by omega)]
              · unfold wantF
                rw [if_neg (by omega), if_neg (by omega), if_neg (by omega)]
                first
                | (exfalso; omega)
                | (have e40 : b = 40 := by omega
                   subst e40
                   simp only [Int.reduceEq, reduceIte]
                   rw [← a3, ← a6]
                   exact (((ms.push _).opn _).at _).spush 0)
                | (have e40 : b ≠ 40 := by omega
                   simp only [if_neg e40]
                   first | rw [if_pos (by omega)] | rw [if_neg (by omega)]
                   rw [← a3, ← a6]
                   exact ((ms.push _).opn _).at _)
            · refine AW.aload_n (pc' := 214) dX12_wanted_213 rfl ?_
              refine AW.dup (pc' := 215) dX12_wanted_214 rfl ?_
              refine AW.getI (pc' := 218) dX12_wanted_215 ly_57 fX12_209 rfl (fun r215 => ?_)
              try simp only [hset_app, Nat.reduceEqDiff, false_and, and_false, true_and, and_true, reduceIte] at r215 ⊢
              refine AW.iconst (pc' := 219) dX12_wanted_218 ?_
              refine AW.iadd (pc' := 220) dX12_wanted_219 ?_
              refine AW.putI (pc' := 223) dX12_wanted_220 ly_57 pX12_209 rfl (by first | assumption | omega | (constructor <;> omega) | (simp only [Int.toNat_natCast]; omega) | exact b2_in _) ?_
              refine AW.aload_n (pc' := 224) dX12_wanted_223 rfl ?_
              refine AW.getR (pc' := 227) dX12_wanted_224 ly_57 fX12_77 rfl ?_
              refine AW.aload_n (pc' := 228) dX12_wanted_227 rfl ?_
              refine AW.getI (pc' := 231) dX12_wanted_228 ly_57 fX12_209 rfl (fun r228 => ?_)
              try simp only [hset_app, Nat.reduceEqDiff, false_and, and_false, true_and, and_true, reduceIte] at r228 ⊢
              refine AW.iconst (pc' := 232) dX12_wanted_231 ?_
              first | refine AW.iastN (pc' := 233) dX12_wanted_232 ly_79 (by first | assumption | omega | (constructor <;> omega) | (simp only [Int.toNat_natCast]; omega) | exact b2_in _) (by decide) (by first | assumption | omega | (constructor <;> omega) | (simp only [Int.toNat_natCast]; omega) | exact b2_in _) ?_ | refine AW.iast (pc' := 233) dX12_wanted_232 ly_79 (by first | assumption | omega | (constructor <;> omega) | (simp only [Int.toNat_natCast]; omega) | exact b2_in _) (by first | assumption | omega | (constructor <;> omega) | (simp only [Int.toNat_natCast]; omega) | exact b2_in _) (by decide) (by first | assumption | omega | (constructor <;> omega) | (simp only [Int.toNat_natCast]; omega) | exact b2_in _) ?_
              refine AW.iconst (pc' := 234) dX12_wanted_233 ?_
              refine AW.iret dX12_wanted_234 ?_ ?_
              · refine congrArg (fun z : Int => (some (vI z) : Option AV)) ?_
                unfold wantF
                rw [if_neg (by omega), if_neg (by omega), if_neg (by omega)]
              · unfold wantF
                rw [if_neg (by omega), if_neg (by omega), if_neg (by omega)]
                first
                | (exfalso; omega)
                | (have e40 : b = 40 := by omega
                   subst e40
                   simp only [Int.reduceEq, reduceIte]
                   rw [← a3, ← a6]
                   exact (((ms.push _).opn _).at _).spush 0)
                | (have e40 : b ≠ 40 := by omega
                   simp only [if_neg e40]
                   first | rw [if_pos (by omega)] | rw [if_neg (by omega)]
                   rw [← a3, ← a6]
                   exact ((ms.push _).opn _).at _)
        · refine AW.iconst (pc' := 155) dX12_wanted_154 ?_
          refine AW.iret dX12_wanted_155 ?_ ?_
          · refine congrArg (fun z : Int => (some (vI z) : Option AV)) ?_
            unfold wantF
            rw [if_neg (by omega), if_neg (by omega), if_pos (by omega)]
          · unfold wantF
            rw [if_neg (by omega), if_neg (by omega), if_pos (by omega)]
            exact ms
      · refine AW.iload_n (pc' := 134) dX12_wanted_133 rfl ?_
        refine AW.bipush (pc' := 136) dX12_wanted_134 (by decide) ?_
        refine AW.icmp_eq (tgt := 145) (pc' := 139) dX12_wanted_136 (by first | assumption | omega | (constructor <;> omega) | (simp only [Int.toNat_natCast]; omega) | exact b2_in _) (by first | assumption | omega | (constructor <;> omega) | (simp only [Int.toNat_natCast]; omega) | exact b2_in _) (fun c136 => ?_) (fun c136 => ?_)
        · 
          refine AW.aload_n (pc' := 146) dX12_wanted_145 rfl ?_
          refine AW.getI (pc' := 149) dX12_wanted_146 ly_57 fX12_197 rfl (fun r146 => ?_)
          refine AW.bipush (pc' := 151) dX12_wanted_149 (by decide) ?_
          refine AW.icmp_ne (tgt := 156) (pc' := 154) dX12_wanted_151 (by first | assumption | omega | (constructor <;> omega) | (simp only [Int.toNat_natCast]; omega) | exact b2_in _) (by first | assumption | omega | (constructor <;> omega) | (simp only [Int.toNat_natCast]; omega) | exact b2_in _) (fun c151 => ?_) (fun c151 => ?_)
          · refine AW.aload_n (pc' := 157) dX12_wanted_156 rfl ?_
            refine AW.getR (pc' := 160) dX12_wanted_157 ly_57 fX12_74 rfl ?_
            refine AW.aload_n (pc' := 161) dX12_wanted_160 rfl ?_
            refine AW.getI (pc' := 164) dX12_wanted_161 ly_57 fX12_187 rfl (fun r161 => ?_)
            refine AW.iload_n (pc' := 165) dX12_wanted_164 rfl ?_
            refine AW.bipush (pc' := 167) dX12_wanted_165 (by decide) ?_
            refine AW.icmp_ne (tgt := 175) (pc' := 170) dX12_wanted_167 (by first | assumption | omega | (constructor <;> omega) | (simp only [Int.toNat_natCast]; omega) | exact b2_in _) (by first | assumption | omega | (constructor <;> omega) | (simp only [Int.toNat_natCast]; omega) | exact b2_in _) (fun c167 => ?_) (fun c167 => ?_)
            · refine AW.iload_n (pc' := 176) dX12_wanted_175 rfl ?_
              first | refine AW.iastN (pc' := 177) dX12_wanted_176 ly_78 (by first | assumption | omega | (constructor <;> omega) | (simp only [Int.toNat_natCast]; omega) | exact b2_in _) (by decide) (by first | assumption | omega | (constructor <;> omega) | (simp only [Int.toNat_natCast]; omega) | exact b2_in _) ?_ | refine AW.iast (pc' := 177) dX12_wanted_176 ly_78 (by first | assumption | omega | (constructor <;> omega) | (simp only [Int.toNat_natCast]; omega) | exact b2_in _) (by first | assumption | omega | (constructor <;> omega) | (simp only [Int.toNat_natCast]; omega) | exact b2_in _) (by decide) (by first | assumption | omega | (constructor <;> omega) | (simp only [Int.toNat_natCast]; omega) | exact b2_in _) ?_
              refine AW.aload_n (pc' := 178) dX12_wanted_177 rfl ?_
              refine AW.dup (pc' := 179) dX12_wanted_178 rfl ?_
              refine AW.getI (pc' := 182) dX12_wanted_179 ly_57 fX12_187 rfl (fun r179 => ?_)
              try simp only [hset_app, Nat.reduceEqDiff, false_and, and_false, true_and, and_true, reduceIte] at r179 ⊢
              refine AW.iconst (pc' := 183) dX12_wanted_182 ?_
              refine AW.iadd (pc' := 184) dX12_wanted_183 ?_
              refine AW.putI (pc' := 187) dX12_wanted_184 ly_57 pX12_187 rfl (by first | assumption | omega | (constructor <;> omega) | (simp only [Int.toNat_natCast]; omega) | exact b2_in _) ?_
              refine AW.aload_n (pc' := 188) dX12_wanted_187 rfl ?_
              refine AW.dup (pc' := 189) dX12_wanted_188 rfl ?_
              refine AW.getI (pc' := 192) dX12_wanted_189 ly_57 fX12_197 rfl (fun r189 => ?_)
              try simp only [hset_app, Nat.reduceEqDiff, false_and, and_false, true_and, and_true, reduceIte] at r189 ⊢
              refine AW.iconst (pc' := 193) dX12_wanted_192 ?_
              refine AW.iadd (pc' := 194) dX12_wanted_193 ?_
              refine AW.putI (pc' := 197) dX12_wanted_194 ly_57 pX12_197 rfl (by first | assumption | omega | (constructor <;> omega) | (simp only [Int.toNat_natCast]; omega) | exact b2_in _) ?_
              refine AW.aload_n (pc' := 198) dX12_wanted_197 rfl ?_
              refine AW.dup (pc' := 199) dX12_wanted_198 rfl ?_
              refine AW.getI (pc' := 202) dX12_wanted_199 ly_57 fX12_200 rfl (fun r199 => ?_)
              try simp only [hset_app, Nat.reduceEqDiff, false_and, and_false, true_and, and_true, reduceIte] at r199 ⊢
              refine AW.iconst (pc' := 203) dX12_wanted_202 ?_
              refine AW.iadd (pc' := 204) dX12_wanted_203 ?_
              refine AW.putI (pc' := 207) dX12_wanted_204 ly_57 pX12_200 rfl (by first | assumption | omega | (constructor <;> omega) | (simp only [Int.toNat_natCast]; omega) | exact b2_in _) ?_
              refine AW.iload_n (pc' := 208) dX12_wanted_207 rfl ?_
              refine AW.bipush (pc' := 210) dX12_wanted_208 (by decide) ?_
              refine AW.icmp_ne (tgt := 233) (pc' := 213) dX12_wanted_210 (by first | assumption | omega | (constructor <;> omega) | (simp only [Int.toNat_natCast]; omega) | exact b2_in _) (by first | assumption | omega | (constructor <;> omega) | (simp only [Int.toNat_natCast]; omega) | exact b2_in _) (fun c210 => ?_) (fun c210 => ?_)
              · refine AW.iconst (pc' := 234) dX12_wanted_233 ?_
                refine AW.iret dX12_wanted_234 ?_ ?_
                · refine congrArg (fun z : Int => (some (vI z) : Option AV)) ?_
                  unfold wantF
                  rw [if_neg (by omega), if_neg (by omega), if_neg (by omega)]
                · unfold wantF
                  rw [if_neg (by omega), if_neg (by omega), if_neg (by omega)]
                  first
                  | (exfalso; omega)
                  | (have e40 : b = 40 := by omega
                     subst e40
                     simp only [Int.reduceEq, reduceIte]
                     rw [← a3, ← a6]
                     exact (((ms.push _).opn _).at _).spush 0)
                  | (have e40 : b ≠ 40 := by omega
                     simp only [if_neg e40]
                     first | rw [if_pos (by omega)] | rw [if_neg (by omega)]
                     rw [← a3, ← a6]
                     exact ((ms.push _).opn _).at _)
              · refine AW.aload_n (pc' := 214) dX12_wanted_213 rfl ?_
                refine AW.dup (pc' := 215) dX12_wanted_214 rfl ?_
                refine AW.getI (pc' := 218) dX12_wanted_215 ly_57 fX12_209 rfl (fun r215 => ?_)
                try simp only [hset_app, Nat.reduceEqDiff, false_and, and_false, true_and, and_true, reduceIte] at r215 ⊢
                refine AW.iconst (pc' := 219) dX12_wanted_218 ?_
                refine AW.iadd (pc' := 220) dX12_wanted_219 ?_
                refine AW.putI (pc' := 223) dX12_wanted_220 ly_57 pX12_209 rfl (by first | assumption | omega | (constructor <;> omega) | (simp only [Int.toNat_natCast]; omega) | exact b2_in _) ?_
                refine AW.aload_n (pc' := 224) dX12_wanted_223 rfl ?_
                refine AW.getR (pc' := 227) dX12_wanted_224 ly_57 fX12_77 rfl ?_
                refine AW.aload_n (pc' := 228) dX12_wanted_227 rfl ?_
                refine AW.getI (pc' := 231) dX12_wanted_228 ly_57 fX12_209 rfl (fun r228 => ?_)
                try simp only [hset_app, Nat.reduceEqDiff, false_and, and_false, true_and, and_true, reduceIte] at r228 ⊢
                refine AW.iconst (pc' := 232) dX12_wanted_231 ?_
                first | refine AW.iastN (pc' := 233) dX12_wanted_232 ly_79 (by first | assumption | omega | (constructor <;> omega) | (simp only [Int.toNat_natCast]; omega) | exact b2_in _) (by decide) (by first | assumption | omega | (constructor <;> omega) | (simp only [Int.toNat_natCast]; omega) | exact b2_in _) ?_ | refine AW.iast (pc' := 233) dX12_wanted_232 ly_79 (by first | assumption | omega | (constructor <;> omega) | (simp only [Int.toNat_natCast]; omega) | exact b2_in _) (by first | assumption | omega | (constructor <;> omega) | (simp only [Int.toNat_natCast]; omega) | exact b2_in _) (by decide) (by first | assumption | omega | (constructor <;> omega) | (simp only [Int.toNat_natCast]; omega) | exact b2_in _) ?_
                refine AW.iconst (pc' := 234) dX12_wanted_233 ?_
                refine AW.iret dX12_wanted_234 ?_ ?_
                · refine congrArg (fun z : Int => (some (vI z) : Option AV)) ?_
                  unfold wantF
                  rw [if_neg (by omega), if_neg (by omega), if_neg (by omega)]
                · unfold wantF
                  rw [if_neg (by omega), if_neg (by omega), if_neg (by omega)]
                  first
                  | (exfalso; omega)
                  | (have e40 : b = 40 := by omega
                     subst e40
                     simp only [Int.reduceEq, reduceIte]
                     rw [← a3, ← a6]
                     exact (((ms.push _).opn _).at _).spush 0)
                  | (have e40 : b ≠ 40 := by omega
                     simp only [if_neg e40]
                     first | rw [if_pos (by omega)] | rw [if_neg (by omega)]
                     rw [← a3, ← a6]
                     exact ((ms.push _).opn _).at _)
            · refine AW.bipush (pc' := 172) dX12_wanted_170 (by decide) ?_
              refine AW.goto (tgt := 176) dX12_wanted_172 ?_
              first | refine AW.iastN (pc' := 177) dX12_wanted_176 ly_78 (by first | assumption | omega | (constructor <;> omega) | (simp only [Int.toNat_natCast]; omega) | exact b2_in _) (by decide) (by first | assumption | omega | (constructor <;> omega) | (simp only [Int.toNat_natCast]; omega) | exact b2_in _) ?_ | refine AW.iast (pc' := 177) dX12_wanted_176 ly_78 (by first | assumption | omega | (constructor <;> omega) | (simp only [Int.toNat_natCast]; omega) | exact b2_in _) (by first | assumption | omega | (constructor <;> omega) | (simp only [Int.toNat_natCast]; omega) | exact b2_in _) (by decide) (by first | assumption | omega | (constructor <;> omega) | (simp only [Int.toNat_natCast]; omega) | exact b2_in _) ?_
              refine AW.aload_n (pc' := 178) dX12_wanted_177 rfl ?_
              refine AW.dup (pc' := 179) dX12_wanted_178 rfl ?_
              refine AW.getI (pc' := 182) dX12_wanted_179 ly_57 fX12_187 rfl (fun r179 => ?_)
              try simp only [hset_app, Nat.reduceEqDiff, false_and, and_false, true_and, and_true, reduceIte] at r179 ⊢
              refine AW.iconst (pc' := 183) dX12_wanted_182 ?_
              refine AW.iadd (pc' := 184) dX12_wanted_183 ?_
              refine AW.putI (pc' := 187) dX12_wanted_184 ly_57 pX12_187 rfl (by first | assumption | omega | (constructor <;> omega) | (simp only [Int.toNat_natCast]; omega) | exact b2_in _) ?_
              refine AW.aload_n (pc' := 188) dX12_wanted_187 rfl ?_
              refine AW.dup (pc' := 189) dX12_wanted_188 rfl ?_
              refine AW.getI (pc' := 192) dX12_wanted_189 ly_57 fX12_197 rfl (fun r189 => ?_)
              try simp only [hset_app, Nat.reduceEqDiff, false_and, and_false, true_and, and_true, reduceIte] at r189 ⊢
              refine AW.iconst (pc' := 193) dX12_wanted_192 ?_
              refine AW.iadd (pc' := 194) dX12_wanted_193 ?_
              refine AW.putI (pc' := 197) dX12_wanted_194 ly_57 pX12_197 rfl (by first | assumption | omega | (constructor <;> omega) | (simp only [Int.toNat_natCast]; omega) | exact b2_in _) ?_
              refine AW.aload_n (pc' := 198) dX12_wanted_197 rfl ?_
              refine AW.dup (pc' := 199) dX12_wanted_198 rfl ?_
              refine AW.getI (pc' := 202) dX12_wanted_199 ly_57 fX12_200 rfl (fun r199 => ?_)
              try simp only [hset_app, Nat.reduceEqDiff, false_and, and_false, true_and, and_true, reduceIte] at r199 ⊢
              refine AW.iconst (pc' := 203) dX12_wanted_202 ?_
              refine AW.iadd (pc' := 204) dX12_wanted_203 ?_
              refine AW.putI (pc' := 207) dX12_wanted_204 ly_57 pX12_200 rfl (by first | assumption | omega | (constructor <;> omega) | (simp only [Int.toNat_natCast]; omega) | exact b2_in _) ?_
              refine AW.iload_n (pc' := 208) dX12_wanted_207 rfl ?_
              refine AW.bipush (pc' := 210) dX12_wanted_208 (by decide) ?_
              refine AW.icmp_ne (tgt := 233) (pc' := 213) dX12_wanted_210 (by first | assumption | omega | (constructor <;> omega) | (simp only [Int.toNat_natCast]; omega) | exact b2_in _) (by first | assumption | omega | (constructor <;> omega) | (simp only [Int.toNat_natCast]; omega) | exact b2_in _) (fun c210 => ?_) (fun c210 => ?_)
              · refine AW.iconst (pc' := 234) dX12_wanted_233 ?_
                refine AW.iret dX12_wanted_234 ?_ ?_
                · refine congrArg (fun z : Int => (some (vI z) : Option AV)) ?_
                  unfold wantF
                  rw [if_neg (by omega), if_neg (by omega), if_neg (by omega)]
                · unfold wantF
                  rw [if_neg (by omega), if_neg (by omega), if_neg (by omega)]
                  first
                  | (exfalso; omega)
                  | (have e40 : b = 40 := by omega
                     subst e40
                     simp only [Int.reduceEq, reduceIte]
                     rw [← a3, ← a6]
                     exact (((ms.push _).opn _).at _).spush 0)
                  | (have e40 : b ≠ 40 := by omega
                     simp only [if_neg e40]
                     first | rw [if_pos (by omega)] | rw [if_neg (by omega)]
                     rw [← a3, ← a6]
                     exact ((ms.push _).opn _).at _)
              · refine AW.aload_n (pc' := 214) dX12_wanted_213 rfl ?_
                refine AW.dup (pc' := 215) dX12_wanted_214 rfl ?_
                refine AW.getI (pc' := 218) dX12_wanted_215 ly_57 fX12_209 rfl (fun r215 => ?_)
                try simp only [hset_app, Nat.reduceEqDiff, false_and, and_false, true_and, and_true, reduceIte] at r215 ⊢
                refine AW.iconst (pc' := 219) dX12_wanted_218 ?_
                refine AW.iadd (pc' := 220) dX12_wanted_219 ?_
                refine AW.putI (pc' := 223) dX12_wanted_220 ly_57 pX12_209 rfl (by first | assumption | omega | (constructor <;> omega) | (simp only [Int.toNat_natCast]; omega) | exact b2_in _) ?_
                refine AW.aload_n (pc' := 224) dX12_wanted_223 rfl ?_
                refine AW.getR (pc' := 227) dX12_wanted_224 ly_57 fX12_77 rfl ?_
                refine AW.aload_n (pc' := 228) dX12_wanted_227 rfl ?_
                refine AW.getI (pc' := 231) dX12_wanted_228 ly_57 fX12_209 rfl (fun r228 => ?_)
                try simp only [hset_app, Nat.reduceEqDiff, false_and, and_false, true_and, and_true, reduceIte] at r228 ⊢
                refine AW.iconst (pc' := 232) dX12_wanted_231 ?_
                first | refine AW.iastN (pc' := 233) dX12_wanted_232 ly_79 (by first | assumption | omega | (constructor <;> omega) | (simp only [Int.toNat_natCast]; omega) | exact b2_in _) (by decide) (by first | assumption | omega | (constructor <;> omega) | (simp only [Int.toNat_natCast]; omega) | exact b2_in _) ?_ | refine AW.iast (pc' := 233) dX12_wanted_232 ly_79 (by first | assumption | omega | (constructor <;> omega) | (simp only [Int.toNat_natCast]; omega) | exact b2_in _) (by first | assumption | omega | (constructor <;> omega) | (simp only [Int.toNat_natCast]; omega) | exact b2_in _) (by decide) (by first | assumption | omega | (constructor <;> omega) | (simp only [Int.toNat_natCast]; omega) | exact b2_in _) ?_
                refine AW.iconst (pc' := 234) dX12_wanted_233 ?_
                refine AW.iret dX12_wanted_234 ?_ ?_
                · refine congrArg (fun z : Int => (some (vI z) : Option AV)) ?_
                  unfold wantF
                  rw [if_neg (by omega), if_neg (by omega), if_neg (by omega)]
                · unfold wantF
                  rw [if_neg (by omega), if_neg (by omega), if_neg (by omega)]
                  first
                  | (exfalso; omega)
                  | (have e40 : b = 40 := by omega
                     subst e40
                     simp only [Int.reduceEq, reduceIte]
                     rw [← a3, ← a6]
                     exact (((ms.push _).opn _).at _).spush 0)
                  | (have e40 : b ≠ 40 := by omega
                     simp only [if_neg e40]
                     first | rw [if_pos (by omega)] | rw [if_neg (by omega)]
                     rw [← a3, ← a6]
                     exact ((ms.push _).opn _).at _)
          · refine AW.iconst (pc' := 155) dX12_wanted_154 ?_
            refine AW.iret dX12_wanted_155 ?_ ?_
            · refine congrArg (fun z : Int => (some (vI z) : Option AV)) ?_
              unfold wantF
              rw [if_neg (by omega), if_neg (by omega), if_pos (by omega)]
            · unfold wantF
              rw [if_neg (by omega), if_neg (by omega), if_pos (by omega)]
              exact ms
        · refine AW.iload_n (pc' := 140) dX12_wanted_139 rfl ?_
          refine AW.bipush (pc' := 142) dX12_wanted_140 (by decide) ?_
          refine AW.icmp_ne (tgt := 154) (pc' := 145) dX12_wanted_142 (by first | assumption | omega | (constructor <;> omega) | (simp only [Int.toNat_natCast]; omega) | exact b2_in _) (by first | assumption | omega | (constructor <;> omega) | (simp only [Int.toNat_natCast]; omega) | exact b2_in _) (fun c142 => ?_) (fun c142 => ?_)
          · refine AW.iconst (pc' := 155) dX12_wanted_154 ?_
            refine AW.iret dX12_wanted_155 ?_ ?_
            · refine congrArg (fun z : Int => (some (vI z) : Option AV)) ?_
              unfold wantF
              rw [if_neg (by omega), if_neg (by omega), if_pos (by omega)]
            · unfold wantF
              rw [if_neg (by omega), if_neg (by omega), if_pos (by omega)]
              exact ms
          · 
            refine AW.aload_n (pc' := 146) dX12_wanted_145 rfl ?_
            refine AW.getI (pc' := 149) dX12_wanted_146 ly_57 fX12_197 rfl (fun r146 => ?_)
            refine AW.bipush (pc' := 151) dX12_wanted_149 (by decide) ?_
            refine AW.icmp_ne (tgt := 156) (pc' := 154) dX12_wanted_151 (by first | assumption | omega | (constructor <;> omega) | (simp only [Int.toNat_natCast]; omega) | exact b2_in _) (by first | assumption | omega | (constructor <;> omega) | (simp only [Int.toNat_natCast]; omega) | exact b2_in _) (fun c151 => ?_) (fun c151 => ?_)
            · refine AW.aload_n (pc' := 157) dX12_wanted_156 rfl ?_
              refine AW.getR (pc' := 160) dX12_wanted_157 ly_57 fX12_74 rfl ?_
              refine AW.aload_n (pc' := 161) dX12_wanted_160 rfl ?_
              refine AW.getI (pc' := 164) dX12_wanted_161 ly_57 fX12_187 rfl (fun r161 => ?_)
              refine AW.iload_n (pc' := 165) dX12_wanted_164 rfl ?_
              refine AW.bipush (pc' := 167) dX12_wanted_165 (by decide) ?_
              refine AW.icmp_ne (tgt := 175) (pc' := 170) dX12_wanted_167 (by first | assumption | omega | (constructor <;> omega) | (simp only [Int.toNat_natCast]; omega) | exact b2_in _) (by first | assumption | omega | (constructor <;> omega) | (simp only [Int.toNat_natCast]; omega) | exact b2_in _) (fun c167 => ?_) (fun c167 => ?_)
              · refine AW.iload_n (pc' := 176) dX12_wanted_175 rfl ?_
                first | refine AW.iastN (pc' := 177) dX12_wanted_176 ly_78 (by first | assumption | omega | (constructor <;> omega) | (simp only [Int.toNat_natCast]; omega) | exact b2_in _) (by decide) (by first | assumption | omega | (constructor <;> omega) | (simp only [Int.toNat_natCast]; omega) | exact b2_in _) ?_ | refine AW.iast (pc' := 177) dX12_wanted_176 ly_78 (by first | assumption | omega | (constructor <;> omega) | (simp only [Int.toNat_natCast]; omega) | exact b2_in _) (by first | assumption | omega | (constructor <;> omega) | (simp only [Int.toNat_natCast]; omega) | exact b2_in _) (by decide) (by first | assumption | omega | (constructor <;> omega) | (simp only [Int.toNat_natCast]; omega) | exact b2_in _) ?_
                refine AW.aload_n (pc' := 178) dX12_wanted_177 rfl ?_
                refine AW.dup (pc' := 179) dX12_wanted_178 rfl ?_
                refine AW.getI (pc' := 182) dX12_wanted_179 ly_57 fX12_187 rfl (fun r179 => ?_)
                try simp only [hset_app, Nat.reduceEqDiff, false_and, and_false, true_and, and_true, reduceIte] at r179 ⊢
                refine AW.iconst (pc' := 183) dX12_wanted_182 ?_
                refine AW.iadd (pc' := 184) dX12_wanted_183 ?_
                refine AW.putI (pc' := 187) dX12_wanted_184 ly_57 pX12_187 rfl (by first | assumption | omega | (constructor <;> omega) | (simp only [Int.toNat_natCast]; omega) | exact b2_in _) ?_
                refine AW.aload_n (pc' := 188) dX12_wanted_187 rfl ?_
                refine AW.dup (pc' := 189) dX12_wanted_188 rfl ?_
                refine AW.getI (pc' := 192) dX12_wanted_189 ly_57 fX12_197 rfl (fun r189 => ?_)
                try simp only [hset_app, Nat.reduceEqDiff, false_and, and_false, true_and, and_true, reduceIte] at r189 ⊢
                refine AW.iconst (pc' := 193) dX12_wanted_192 ?_
                refine AW.iadd (pc' := 194) dX12_wanted_193 ?_
                refine AW.putI (pc' := 197) dX12_wanted_194 ly_57 pX12_197 rfl (by first | assumption | omega | (constructor <;> omega) | (simp only [Int.toNat_natCast]; omega) | exact b2_in _) ?_
                refine AW.aload_n (pc' := 198) dX12_wanted_197 rfl ?_
                refine AW.dup (pc' := 199) dX12_wanted_198 rfl ?_
                refine AW.getI (pc' := 202) dX12_wanted_199 ly_57 fX12_200 rfl (fun r199 => ?_)
                try simp only [hset_app, Nat.reduceEqDiff, false_and, and_false, true_and, and_true, reduceIte] at r199 ⊢
                refine AW.iconst (pc' := 203) dX12_wanted_202 ?_
                refine AW.iadd (pc' := 204) dX12_wanted_203 ?_
                refine AW.putI (pc' := 207) dX12_wanted_204 ly_57 pX12_200 rfl (by first | assumption | omega | (constructor <;> omega) | (simp only [Int.toNat_natCast]; omega) | exact b2_in _) ?_
                refine AW.iload_n (pc' := 208) dX12_wanted_207 rfl ?_
                refine AW.bipush (pc' := 210) dX12_wanted_208 (by decide) ?_
                refine AW.icmp_ne (tgt := 233) (pc' := 213) dX12_wanted_210 (by first | assumption | omega | (constructor <;> omega) | (simp only [Int.toNat_natCast]; omega) | exact b2_in _) (by first | assumption | omega | (constructor <;> omega) | (simp only [Int.toNat_natCast]; omega) | exact b2_in _) (fun c210 => ?_) (fun c210 => ?_)
                · refine AW.iconst (pc' := 234) dX12_wanted_233 ?_
                  refine AW.iret dX12_wanted_234 ?_ ?_
                  · refine congrArg (fun z : Int => (some (vI z) : Option AV)) ?_
                    unfold wantF
                    rw [if_neg (by omega), if_neg (by omega), if_neg (by omega)]
                  · unfold wantF
                    rw [if_neg (by omega), if_neg (by omega), if_neg (by omega)]
                    first
                    | (exfalso; omega)
                    | (have e40 : b = 40 := by omega
                       subst e40
                       simp only [Int.reduceEq, reduceIte]
                       rw [← a3, ← a6]
                       exact (((ms.push _).opn _).at _).spush 0)
                    | (have e40 : b ≠ 40 := by omega
                       simp only [if_neg e40]
                       first | rw [if_pos (by omega)] | rw [if_neg (by omega)]
                       rw [← a3, ← a6]
                       exact ((ms.push _).opn _).at _)
                · refine AW.aload_n (pc' := 214) dX12_wanted_213 rfl ?_
                  refine AW.dup (pc' := 215) dX12_wanted_214 rfl ?_
                  refine AW.getI (pc' := 218) dX12_wanted_215 ly_57 fX12_209 rfl (fun r215 => ?_)
                  try simp only [hset_app, Nat.reduceEqDiff, false_and, and_false, true_and, and_true, reduceIte] at r215 ⊢
                  refine AW.iconst (pc' := 219) dX12_wanted_218 ?_
                  refine AW.iadd (pc' := 220) dX12_wanted_219 ?_
                  refine AW.putI (pc' := 223) dX12_wanted_220 ly_57 pX12_209 rfl (by first | assumption | omega | (constructor <;> omega) | (simp only [Int.toNat_natCast]; omega) | exact b2_in _) ?_
                  refine AW.aload_n (pc' := 224) dX12_wanted_223 rfl ?_
                  refine AW.getR (pc' := 227) dX12_wanted_224 ly_57 fX12_77 rfl ?_
                  refine AW.aload_n (pc' := 228) dX12_wanted_227 rfl ?_
                  refine AW.getI (pc' := 231) dX12_wanted_228 ly_57 fX12_209 rfl (fun r228 => ?_)
                  try simp only [hset_app, Nat.reduceEqDiff, false_and, and_false, true_and, and_true, reduceIte] at r228 ⊢
                  refine AW.iconst (pc' := 232) dX12_wanted_231 ?_
                  first | refine AW.iastN (pc' := 233) dX12_wanted_232 ly_79 (by first | assumption | omega | (constructor <;> omega) | (simp only [Int.toNat_natCast]; omega) | exact b2_in _) (by decide) (by first | assumption | omega | (constructor <;> omega) | (simp only [Int.toNat_natCast]; omega) | exact b2_in _) ?_ | refine AW.iast (pc' := 233) dX12_wanted_232 ly_79 (by first | assumption | omega | (constructor <;> omega) | (simp only [Int.toNat_natCast]; omega) | exact b2_in _) (by first | assumption | omega | (constructor <;> omega) | (simp only [Int.toNat_natCast]; omega) | exact b2_in _) (by decide) (by first | assumption | omega | (constructor <;> omega) | (simp only [Int.toNat_natCast]; omega) | exact b2_in _) ?_
                  refine AW.iconst (pc' := 234) dX12_wanted_233 ?_
                  refine AW.iret dX12_wanted_234 ?_ ?_
                  · refine congrArg (fun z : Int => (some (vI z) : Option AV)) ?_
                    unfold wantF
                    rw [if_neg (by omega), if_neg (by omega), if_neg (by omega)]
                  · unfold wantF
                    rw [if_neg (by omega), if_neg (by omega), if_neg (by omega)]
                    first
                    | (exfalso; omega)
                    | (have e40 : b = 40 := by omega
                       subst e40
                       simp only [Int.reduceEq, reduceIte]
                       rw [← a3, ← a6]
                       exact (((ms.push _).opn _).at _).spush 0)
                    | (have e40 : b ≠ 40 := by omega
                       simp only [if_neg e40]
                       first | rw [if_pos (by omega)] | rw [if_neg (by omega)]
                       rw [← a3, ← a6]
                       exact ((ms.push _).opn _).at _)
              · refine AW.bipush (pc' := 172) dX12_wanted_170 (by decide) ?_
                refine AW.goto (tgt := 176) dX12_wanted_172 ?_
                first | refine AW.iastN (pc' := 177) dX12_wanted_176 ly_78 (by first | assumption | omega | (constructor <;> omega) | (simp only [Int.toNat_natCast]; omega) | exact b2_in _) (by decide) (by first | assumption | omega | (constructor <;> omega) | (simp only [Int.toNat_natCast]; omega) | exact b2_in _) ?_ | refine AW.iast (pc' := 177) dX12_wanted_176 ly_78 (by first | assumption | omega | (constructor <;> omega) | (simp only [Int.toNat_natCast]; omega) | exact b2_in _) (by first | assumption | omega | (constructor <;> omega) | (simp only [Int.toNat_natCast]; omega) | exact b2_in _) (by decide) (by first | assumption | omega | (constructor <;> omega) | (simp only [Int.toNat_natCast]; omega) | exact b2_in _) ?_
                refine AW.aload_n (pc' := 178) dX12_wanted_177 rfl ?_
                refine AW.dup (pc' := 179) dX12_wanted_178 rfl ?_
                refine AW.getI (pc' := 182) dX12_wanted_179 ly_57 fX12_187 rfl (fun r179 => ?_)
                try simp only [hset_app, Nat.reduceEqDiff, false_and, and_false, true_and, and_true, reduceIte] at r179 ⊢
                refine AW.iconst (pc' := 183) dX12_wanted_182 ?_
                refine AW.iadd (pc' := 184) dX12_wanted_183 ?_
                refine AW.putI (pc' := 187) dX12_wanted_184 ly_57 pX12_187 rfl (by first | assumption | omega | (constructor <;> omega) | (simp only [Int.toNat_natCast]; omega) | exact b2_in _) ?_
                refine AW.aload_n (pc' := 188) dX12_wanted_187 rfl ?_
                refine AW.dup (pc' := 189) dX12_wanted_188 rfl ?_
                refine AW.getI (pc' := 192) dX12_wanted_189 ly_57 fX12_197 rfl (fun r189 => ?_)
                try simp only [hset_app, Nat.reduceEqDiff, false_and, and_false, true_and, and_true, reduceIte] at r189 ⊢
                refine AW.iconst (pc' := 193) dX12_wanted_192 ?_
                refine AW.iadd (pc' := 194) dX12_wanted_193 ?_
                refine AW.putI (pc' := 197) dX12_wanted_194 ly_57 pX12_197 rfl (by first | assumption | omega | (constructor <;> omega) | (simp only [Int.toNat_natCast]; omega) | exact b2_in _) ?_
                refine AW.aload_n (pc' := 198) dX12_wanted_197 rfl ?_
                refine AW.dup (pc' := 199) dX12_wanted_198 rfl ?_
                refine AW.getI (pc' := 202) dX12_wanted_199 ly_57 fX12_200 rfl (fun r199 => ?_)
                try simp only [hset_app, Nat.reduceEqDiff, false_and, and_false, true_and, and_true, reduceIte] at r199 ⊢
                refine AW.iconst (pc' := 203) dX12_wanted_202 ?_
                refine AW.iadd (pc' := 204) dX12_wanted_203 ?_
                refine AW.putI (pc' := 207) dX12_wanted_204 ly_57 pX12_200 rfl (by first | assumption | omega | (constructor <;> omega) | (simp only [Int.toNat_natCast]; omega) | exact b2_in _) ?_
                refine AW.iload_n (pc' := 208) dX12_wanted_207 rfl ?_
                refine AW.bipush (pc' := 210) dX12_wanted_208 (by decide) ?_
                refine AW.icmp_ne (tgt := 233) (pc' := 213) dX12_wanted_210 (by first | assumption | omega | (constructor <;> omega) | (simp only [Int.toNat_natCast]; omega) | exact b2_in _) (by first | assumption | omega | (constructor <;> omega) | (simp only [Int.toNat_natCast]; omega) | exact b2_in _) (fun c210 => ?_) (fun c210 => ?_)
                · refine AW.iconst (pc' := 234) dX12_wanted_233 ?_
                  refine AW.iret dX12_wanted_234 ?_ ?_
                  · refine congrArg (fun z : Int => (some (vI z) : Option AV)) ?_
                    unfold wantF
                    rw [if_neg (by omega), if_neg (by omega), if_neg (by omega)]
                  · unfold wantF
                    rw [if_neg (by omega), if_neg (by omega), if_neg (by omega)]
                    first
                    | (exfalso; omega)
                    | (have e40 : b = 40 := by omega
                       subst e40
                       simp only [Int.reduceEq, reduceIte]
                       rw [← a3, ← a6]
                       exact (((ms.push _).opn _).at _).spush 0)
                    | (have e40 : b ≠ 40 := by omega
                       simp only [if_neg e40]
                       first | rw [if_pos (by omega)] | rw [if_neg (by omega)]
                       rw [← a3, ← a6]
                       exact ((ms.push _).opn _).at _)
                · refine AW.aload_n (pc' := 214) dX12_wanted_213 rfl ?_
                  refine AW.dup (pc' := 215) dX12_wanted_214 rfl ?_
                  refine AW.getI (pc' := 218) dX12_wanted_215 ly_57 fX12_209 rfl (fun r215 => ?_)
                  try simp only [hset_app, Nat.reduceEqDiff, false_and, and_false, true_and, and_true, reduceIte] at r215 ⊢
                  refine AW.iconst (pc' := 219) dX12_wanted_218 ?_
                  refine AW.iadd (pc' := 220) dX12_wanted_219 ?_
                  refine AW.putI (pc' := 223) dX12_wanted_220 ly_57 pX12_209 rfl (by first | assumption | omega | (constructor <;> omega) | (simp only [Int.toNat_natCast]; omega) | exact b2_in _) ?_
                  refine AW.aload_n (pc' := 224) dX12_wanted_223 rfl ?_
                  refine AW.getR (pc' := 227) dX12_wanted_224 ly_57 fX12_77 rfl ?_
                  refine AW.aload_n (pc' := 228) dX12_wanted_227 rfl ?_
                  refine AW.getI (pc' := 231) dX12_wanted_228 ly_57 fX12_209 rfl (fun r228 => ?_)
                  try simp only [hset_app, Nat.reduceEqDiff, false_and, and_false, true_and, and_true, reduceIte] at r228 ⊢
                  refine AW.iconst (pc' := 232) dX12_wanted_231 ?_
                  first | refine AW.iastN (pc' := 233) dX12_wanted_232 ly_79 (by first | assumption | omega | (constructor <;> omega) | (simp only [Int.toNat_natCast]; omega) | exact b2_in _) (by decide) (by first | assumption | omega | (constructor <;> omega) | (simp only [Int.toNat_natCast]; omega) | exact b2_in _) ?_ | refine AW.iast (pc' := 233) dX12_wanted_232 ly_79 (by first | assumption | omega | (constructor <;> omega) | (simp only [Int.toNat_natCast]; omega) | exact b2_in _) (by first | assumption | omega | (constructor <;> omega) | (simp only [Int.toNat_natCast]; omega) | exact b2_in _) (by decide) (by first | assumption | omega | (constructor <;> omega) | (simp only [Int.toNat_natCast]; omega) | exact b2_in _) ?_
                  refine AW.iconst (pc' := 234) dX12_wanted_233 ?_
                  refine AW.iret dX12_wanted_234 ?_ ?_
                  · refine congrArg (fun z : Int => (some (vI z) : Option AV)) ?_
                    unfold wantF
                    rw [if_neg (by omega), if_neg (by omega), if_neg (by omega)]
                  · unfold wantF
                    rw [if_neg (by omega), if_neg (by omega), if_neg (by omega)]
                    first
                    | (exfalso; omega)
                    | (have e40 : b = 40 := by omega
                       subst e40
                       simp only [Int.reduceEq, reduceIte]
                       rw [← a3, ← a6]
                       exact (((ms.push _).opn _).at _).spush 0)
                    | (have e40 : b ≠ 40 := by omega
                       simp only [if_neg e40]
                       first | rw [if_pos (by omega)] | rw [if_neg (by omega)]
                       rw [← a3, ← a6]
                       exact ((ms.push _).opn _).at _)
            · refine AW.iconst (pc' := 155) dX12_wanted_154 ?_
              refine AW.iret dX12_wanted_155 ?_ ?_
              · refine congrArg (fun z : Int => (some (vI z) : Option AV)) ?_
                unfold wantF
                rw [if_neg (by omega), if_neg (by omega), if_pos (by omega)]
              · unfold wantF
                rw [if_neg (by omega), if_neg (by omega), if_pos (by omega)]
                exact ms
    · refine AW.aload_n (pc' := 107) dX12_wanted_106 rfl ?_
      refine AW.iload_n (pc' := 108) dX12_wanted_107 rfl ?_
      refine AW.invV1v (pc' := 111) dX12_wanted_108 mlX12_193 mX12_emits ly_57 rfl (c_X12_emits (dep := dep - 1) (by omega) (by omega)) ?_
      refine AW.aload_n (pc' := 112) dX12_wanted_111 rfl ?_
      refine AW.dup (pc' := 113) dX12_wanted_112 rfl ?_
      refine AW.getI (pc' := 116) dX12_wanted_113 ly_57 fX12_200 rfl (fun r113 => ?_)
      try simp only [hset_app, Nat.reduceEqDiff, false_and, and_false, true_and, and_true, reduceIte] at r113 ⊢
      refine AW.iconst (pc' := 117) dX12_wanted_116 ?_
      refine AW.iadd (pc' := 118) dX12_wanted_117 ?_
      refine AW.putI (pc' := 121) dX12_wanted_118 ly_57 pX12_200 rfl (by first | assumption | omega | (constructor <;> omega) | (simp only [Int.toNat_natCast]; omega) | exact b2_in _) ?_
      refine AW.aload_n (pc' := 122) dX12_wanted_121 rfl ?_
      refine AW.invQ0v (pc' := 125) dX12_wanted_122 mlX12_203 mX12_binds ly_57 rfl (c_X12_binds (dep := dep - 1) (by omega) ((ms.emit b).at _) (by omega) (by simp only [List.length_cons]; omega) (by omega)) (fun h122 s122 => ?_)
      refine AW.iconst (pc' := 126) dX12_wanted_125 ?_
      refine AW.iret dX12_wanted_126 ?_ ?_
      · refine congrArg (fun z : Int => (some (vI z) : Option AV)) ?_
        unfold wantF
        rw [if_neg (by omega), if_pos (by omega)]
      · unfold wantF
        rw [if_neg (by omega), if_pos (by omega)]
        rw [← a3]
        exact s122
  · refine AW.iconst (pc' := 12) dX12_wanted_11 ?_
    refine AW.istore2n (pc' := 13) dX12_wanted_12 (by decide) rfl ?_
    refine AW.iconst (pc' := 14) dX12_wanted_13 ?_
    refine AW.istore3n (pc' := 15) dX12_wanted_14 (by decide) rfl ?_
    refine AW.weak (lp_X12_wanted (g := g) (b := b) (by omega) (by omega) 4 0 0 A h (by omega) ms w1 (by omega) (by decide) (fun h2 m2 n2 n3 => ?_)) (by (repeat' first | exact LSub.e | refine LSub.n ?_ | refine LSub.c ?_ ?_) <;> first | rfl | exact congrArg Sum.inl (by first | rfl | omega | omega) | exact congrArg (fun z : Int => (vL z : AV)) (by first | rfl | omega | omega))
    rw [← e75, ← e29] at m2 n2 n3 ⊢
    have nm := nuM_in (B := h 75) (E := h 57 29) 4 0 A w2
    have m4 := m2.2.2.2.1
    refine AW.aload_n (pc' := 85) dX12_wanted_84 rfl ?_
    refine AW.sipush (pc' := 88) dX12_wanted_85 (by decide) ?_
    refine AW.iload_n (pc' := 89) dX12_wanted_88 rfl ?_
    refine AW.iadd (pc' := 90) dX12_wanted_89 ?_
    refine AW.invV1v (pc' := 93) dX12_wanted_90 mlX12_193 mX12_emits ly_57 rfl (c_X12_emits (dep := dep - 1) (by omega) (by omega)) ?_
    refine AW.aload_n (pc' := 94) dX12_wanted_93 rfl ?_
    refine AW.invQ0v (pc' := 97) dX12_wanted_94 mlX12_203 mX12_binds ly_57 rfl (c_X12_binds (dep := dep - 1) (by omega) (m2.emit _) (by omega) (by simp only [List.length_cons]; omega) (by omega)) (fun h94 s94 => ?_)
    refine AW.iconst (pc' := 98) dX12_wanted_97 ?_
    refine AW.iret dX12_wanted_98 ?_ ?_
    · refine congrArg (fun z : Int => (some (vI z) : Option AV)) ?_
      unfold wantF
      rw [if_pos (by omega)]
    · unfold wantF
      rw [if_pos (by omega)]
      exact s94
set_option maxRecDepth 100000 in
set_option maxHeartbeats 4000000 in
theorem c_X12_closes0 {K : KT} {dep : Nat} {h : Hp} {g : Hp} {base : Nat} {A O C s : Int} {P T : List Int}  (ms : MS g base A P T O [s] C h) (qw : WFr (h 57 29) (A, (P, (T, (O, ([s], C)))))) (qb : base ≤ 400) : AM K yX12_closes cX12_closes 1 (some .boolean) dep [vR 57] h (some (vI 0)) (h) := by
  refine AM.of (own := RX12) (ls := [some (vR 57)]) rfl (by decide +kernel) (by exact Nat.le_of_ble_eq_true rfl) rfl (fun hO => ?_)
  have ms2 := ms
  obtain ⟨a1, a2, a3, a4, a5, a6, a7, a8, -⟩ := ms2
  have e29 : h 57 29 = g 57 29 := a2 29 (Or.inl (by decide))
  have e75 : h 75 = g 75 := a1 75 rfl
  have qw2 := qw
  obtain ⟨w1, w2, w3, w4, w5, w6, w7, w8, w9⟩ := qw2
  simp only at w1 w2 w4 w5 w6 w7 w8 w9
  have cpl := cP_le P
  refine AW.aload_n (pc' := 1) dX12_closes_0 rfl ?_
  refine AW.getI (pc' := 4) dX12_closes_1 ly_57 fX12_209 rfl (fun r1 => ?_)
  refine AW.if_ne (tgt := 9) (pc' := 7) dX12_closes_4 (by first | assumption | omega | (constructor <;> omega) | (simp only [Int.toNat_natCast]; omega) | exact b2_in _) (fun c4 => ?_) (fun c4 => ?_)
  · simp only [List.length_cons, List.length_nil] at a7
    omega
  · refine AW.iconst (pc' := 8) dX12_closes_7 ?_
    refine AW.zret dX12_closes_8 ?_ ?_ (by first | exact Or.inl rfl | exact Or.inr rfl | exact b2_01 _ | assumption | (subst_vars; omega))
    all_goals first | rfl | exact congrArg (fun z : Int => (some (vI z) : Option AV)) (b2_t (by omega)) | exact congrArg (fun z : Int => (some (vI z) : Option AV)) (b2_f (by omega)) | ((repeat' split) <;> first | rfl | omega) | (refine congrArg (fun z : Int => (some (vI z) : Option AV)) ?_; (repeat' split) <;> first | rfl | omega)
set_option maxRecDepth 100000 in
set_option maxHeartbeats 4000000 in
theorem c_X12_closes1 {K : KT} {dep : Nat} {h : Hp} {g : Hp} {base : Nat} {A O C : Int} {P T S : List Int} {s r : Int} (hd : 2 ≤ dep) (ms : MS g base A P T O (s :: r :: S) C h) (qw : WFr (h 57 29) (A, (P, (T, (O, ((s :: r :: S), C)))))) (qb : base ≤ 400) : AMp K yX12_closes cX12_closes 1 (some .boolean) dep [vR 57] h (some (vI 1)) (fun x => MSt g base (clF A P T O (r :: S) C) x) := by
  refine AM.of (own := RX12) (ls := [some (vR 57)]) rfl (by decide +kernel) (by exact Nat.le_of_ble_eq_true rfl) rfl (fun hO => ?_)
  have ms2 := ms
  obtain ⟨a1, a2, a3, a4, a5, a6, a7, a8, -⟩ := ms2
  have e29 : h 57 29 = g 57 29 := a2 29 (Or.inl (by decide))
  have e75 : h 75 = g 75 := a1 75 rfl
  have qw2 := qw
  obtain ⟨w1, w2, w3, w4, w5, w6, w7, w8, w9⟩ := qw2
  simp only at w1 w2 w4 w5 w6 w7 w8 w9
  have cpl := cP_le P
  simp only [List.length_cons] at a7 w7
  refine AW.aload_n (pc' := 1) dX12_closes_0 rfl ?_
  refine AW.getI (pc' := 4) dX12_closes_1 ly_57 fX12_209 rfl (fun r1 => ?_)
  refine AW.if_ne (tgt := 9) (pc' := 7) dX12_closes_4 (by first | assumption | omega | (constructor <;> omega) | (simp only [Int.toNat_natCast]; omega) | exact b2_in _) (fun c4 => ?_) (fun c4 => ?_)
  · refine AW.aload_n (pc' := 10) dX12_closes_9 rfl ?_
    refine AW.iconst (pc' := 11) dX12_closes_10 ?_
    refine AW.invQ1v (pc' := 14) dX12_closes_11 mlX12_212 mX12_settles ly_57 rfl (c_X12_settles (dep := dep - 1) (by omega) ms (by omega) (by omega) (by decide)) (fun h11 s11 => ?_)
    have s0 := stl_0 P T
    have si := stl_in 0 P T
    obtain ⟨Q, hQ⟩ : ∃ Q, (stl 0 P T).1 = 40 :: Q := by
      rcases s0 with z | z
      · exfalso
        rw [z] at si
        have := si.2.1
        have y : cP ([] : List Int) = 0 := rfl
        omega
      · exact z
    have m1 := s11
    rw [hQ] at m1 si
    simp only [List.length_cons] at si
    have cu1 : cU (40 :: Q) = 1 + cU Q := by show (if _ then 1 else 0) + cU Q = _; rw [if_pos (by omega)]
    have m2 := (m1.pop).1
    have b6 := m1.2.2.2.2.2.1
    have b5 := m1.2.2.2.2.1
    have b3 := m1.2.2.1
    have b7 := m1.2.2.2.2.2.2.1
    simp only [List.length_cons] at b5 b7
    have m3 := (m2.opn (O - 1)).spop
    rw [← b6] at m3
    refine AW.aload_n (pc' := 15) dX12_closes_14 rfl ?_
    refine AW.dup (pc' := 16) dX12_closes_15 rfl ?_
    refine AW.getI (pc' := 19) dX12_closes_16 ly_57 fX12_187 rfl (fun r16 => ?_)
    refine AW.iconst (pc' := 20) dX12_closes_19 ?_
    refine AW.isub (pc' := 21) dX12_closes_20 ?_
    refine AW.putI (pc' := 24) dX12_closes_21 ly_57 pX12_187 rfl (by first | assumption | omega | (constructor <;> omega) | (simp only [Int.toNat_natCast]; omega) | exact b2_in _) ?_
    refine AW.aload_n (pc' := 25) dX12_closes_24 rfl ?_
    refine AW.dup (pc' := 26) dX12_closes_25 rfl ?_
    refine AW.getI (pc' := 29) dX12_closes_26 ly_57 fX12_197 rfl (fun r26 => ?_)
    try simp only [hset_app, Nat.reduceEqDiff, false_and, and_false, true_and, and_true, reduceIte] at r26 ⊢
    refine AW.iconst (pc' := 30) dX12_closes_29 ?_
    refine AW.isub (pc' := 31) dX12_closes_30 ?_
    refine AW.putI (pc' := 34) dX12_closes_31 ly_57 pX12_197 rfl (by first | assumption | omega | (constructor <;> omega) | (simp only [Int.toNat_natCast]; omega) | exact b2_in _) ?_
    refine AW.aload_n (pc' := 35) dX12_closes_34 rfl ?_
    refine AW.dup (pc' := 36) dX12_closes_35 rfl ?_
    refine AW.getI (pc' := 39) dX12_closes_36 ly_57 fX12_209 rfl (fun r36 => ?_)
    try simp only [hset_app, Nat.reduceEqDiff, false_and, and_false, true_and, and_true, reduceIte] at r36 ⊢
    refine AW.iconst (pc' := 40) dX12_closes_39 ?_
    refine AW.isub (pc' := 41) dX12_closes_40 ?_
    refine AW.putI (pc' := 44) dX12_closes_41 ly_57 pX12_209 rfl (by first | assumption | omega | (constructor <;> omega) | (simp only [Int.toNat_natCast]; omega) | exact b2_in _) ?_
    refine AW.aload_n (pc' := 45) dX12_closes_44 rfl ?_
    refine AW.invQ0v (pc' := 48) dX12_closes_45 mlX12_203 mX12_binds ly_57 rfl (c_X12_binds (dep := dep - 1) (by omega) m3 (by omega) (by omega) (by omega)) (fun h45 s45 => ?_)
    have b33 := s45.2.2.1
    refine AW.aload_n (pc' := 49) dX12_closes_48 rfl ?_
    refine AW.dup (pc' := 50) dX12_closes_49 rfl ?_
    refine AW.getI (pc' := 53) dX12_closes_50 ly_57 fX12_200 rfl (fun r50 => ?_)
    refine AW.iconst (pc' := 54) dX12_closes_53 ?_
    refine AW.iadd (pc' := 55) dX12_closes_54 ?_
    refine AW.putI (pc' := 58) dX12_closes_55 ly_57 pX12_200 rfl (by first | assumption | omega | (constructor <;> omega) | (simp only [Int.toNat_natCast]; omega) | exact b2_in _) ?_
    refine AW.iconst (pc' := 59) dX12_closes_58 ?_
    refine AW.zret dX12_closes_59 ?_ ?_ (by first | exact Or.inl rfl | exact Or.inr rfl | exact b2_01 _ | assumption | (subst_vars; omega))
    · rfl
    · unfold clF
      rw [hQ]
      have m9 := s45.at (A + 1)
      rw [b6] at m9
      rw [b33]
      exact m9
  · omega
