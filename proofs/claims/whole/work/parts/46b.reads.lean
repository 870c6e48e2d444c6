/-! laws: the reference reads a law, walked -/
theorem list_ht {S : List Int} (h : 0 < S.length) : S = S.headD 0 :: S.tail := by
  cases S with
  | nil => exact absurd h (Nat.lt_irrefl _)
  | cons a S => rfl
theorem wantF_r1 (B : Nat → Int) (E A : Int) (P T : List Int) (O : Int) (S : List Int) (C b : Int) : -1 ≤ (wantF B E A P T O S C b).1 ∧ (wantF B E A P T O S C b).1 ≤ 1 := by
  unfold wantF
  split
  · (dsimp only; omega)
  · split
    · (dsimp only; omega)
    · split <;> (dsimp only; omega)
theorem behF_r1 (A : Int) (P T : List Int) (O s : Int) (S : List Int) (C b : Int) : -1 ≤ (behF A P T O s S C b).1 ∧ (behF A P T O s S C b).1 ≤ 1 := by
  unfold behF
  split
  · split <;> (dsimp only; omega)
  · split
    · split <;> (dsimp only; omega)
    · split <;> (dsimp only; omega)
set_option maxRecDepth 100000 in
set_option maxHeartbeats 4000000 in
theorem lp_X12_reads {K : KT}  {dep : Nat} {g : Hp} {base : Nat} (qb : base ≤ 400) (hd : 4 ≤ dep) : ∀ (n : Nat) (w : Bool) (A : Int) (P T : List Int) (O s : Int) (S : List Int) (C : Int) (h1 : Hp), MS g base A P T O (s :: S) C h1 → WFr (g 57 29) (A, (P, (T, (O, (s :: S, C))))) → g 57 29 - A < n → AW K (XP K (some (vI (rdM (g 75) (g 57 29) n w A P T O s S C).1)) (fun x => MSt g base (rdM (g 75) (g 57 29) n w A P T O s S C).2 x)) RX12 cX12_reads 3 (some .boolean) dep 47 [some (vR 57), some (vI ((if w = true then 1 else 0))), none] [] h1 := by
  intro n
  induction n with
  | zero =>
    intro w A P T O s S C h1 ms qw hn
    have ms2 := ms
    obtain ⟨a1, a2, a3, a4, a5, a6, a7, a8, -⟩ := ms2
    have e29 : h1 57 29 = g 57 29 := a2 29 (Or.inl (by decide))
    have e75 : h1 75 = g 75 := a1 75 rfl
    have qw2 := qw
    obtain ⟨w1, w2, w3, w4, w5, w6, w7, w8, w9⟩ := qw2
    simp only at w1 w2 w4 w5 w6 w7 w8 w9
    simp only [List.length_cons] at a7 w7
    have cpl := cP_le P
    have wi : inI (if w = true then (1 : Int) else 0) := by cases w <;> decide
    refine AW.aload_n (pc' := 48) dX12_reads_47 rfl ?_
    omega
  | succ n ih =>
    intro w A P T O s S C h1 ms qw hn
    have ms2 := ms
    obtain ⟨a1, a2, a3, a4, a5, a6, a7, a8, -⟩ := ms2
    have e29 : h1 57 29 = g 57 29 := a2 29 (Or.inl (by decide))
    have e75 : h1 75 = g 75 := a1 75 rfl
    have qw2 := qw
    obtain ⟨w1, w2, w3, w4, w5, w6, w7, w8, w9⟩ := qw2
    simp only at w1 w2 w4 w5 w6 w7 w8 w9
    simp only [List.length_cons] at a7 w7
    have cpl := cP_le P
    have wi : inI (if w = true then (1 : Int) else 0) := by cases w <;> decide
    refine AW.aload_n (pc' := 48) dX12_reads_47 rfl ?_
    refine AW.getI (pc' := 51) dX12_reads_48 ly_57 fX12_200 rfl (fun r48 => ?_)
    try simp only [a3, e75, e29] at r48 ⊢
    refine AW.aload_n (pc' := 52) dX12_reads_51 rfl ?_
    refine AW.getI (pc' := 55) dX12_reads_52 ly_57 fX12_181 rfl (fun r52 => ?_)
    try simp only [a3, e75, e29] at r52 ⊢
    refine AW.icmp_ge (tgt := 129) (pc' := 58) dX12_reads_55 (by first | assumption | omega | (constructor <;> omega) | (simp only [Int.toNat_natCast]; omega) | exact b2_in _) (by first | assumption | omega | (constructor <;> omega) | (simp only [Int.toNat_natCast]; omega) | exact b2_in _) (fun c55 => ?_) (fun c55 => ?_)
    · refine AW.iload_n (pc' := 130) dX12_reads_129 rfl ?_
      refine AW.if_ne (tgt := 140) (pc' := 133) dX12_reads_130 (by first | assumption | omega | (constructor <;> omega) | (simp only [Int.toNat_natCast]; omega) | exact b2_in _) (fun c130 => ?_) (fun c130 => ?_)
      · have ew : w = true := by
          cases w with
          | false => exact absurd rfl c130
          | true => rfl
        subst ew
        refine AW.iconst (pc' := 141) dX12_reads_140 ?_
        refine AW.zret dX12_reads_141 ?_ ?_ (by first | exact Or.inl rfl | exact Or.inr rfl | exact b2_01 _ | assumption | (subst_vars; omega))
        · refine congrArg (fun z : Int => (some (vI z) : Option AV)) ?_
          unfold rdM
          rw [if_neg (by omega), if_pos (by first | exact Or.inl rfl | (right; intro y; rw [y] at a7; simp only [List.length_nil] at a7; omega))]
        · unfold rdM
          rw [if_neg (by omega), if_pos (by first | exact Or.inl rfl | (right; intro y; rw [y] at a7; simp only [List.length_nil] at a7; omega))]
          exact ms
      · have ew : w = false := by
          cases w with
          | false => rfl
          | true => exact absurd c130 (by decide)
        subst ew
        refine AW.aload_n (pc' := 134) dX12_reads_133 rfl ?_
        refine AW.getI (pc' := 137) dX12_reads_134 ly_57 fX12_209 rfl (fun r134 => ?_)
        try simp only [a3, e75, e29] at r134 ⊢
        refine AW.if_le (tgt := 142) (pc' := 140) dX12_reads_137 (by first | assumption | omega | (constructor <;> omega) | (simp only [Int.toNat_natCast]; omega) | exact b2_in _) (fun c137 => ?_) (fun c137 => ?_)
        · refine AW.aload_n (pc' := 143) dX12_reads_142 rfl ?_
          refine AW.iconst (pc' := 144) dX12_reads_143 ?_
          refine AW.invQ1v (pc' := 147) dX12_reads_144 mlX12_212 mX12_settles ly_57 rfl (c_X12_settles (dep := dep - 1) (by omega) ms (by omega) (by omega) (by decide)) (fun h144 s144 => ?_)
          try simp only [Int.toNat_natCast, a3, e75, e29]
          have b4 := s144.2.2.2.1
          have si := stl_in 0 P T
          refine AW.aload_n (pc' := 148) dX12_reads_147 rfl ?_
          refine AW.sipush (pc' := 151) dX12_reads_148 (by decide) ?_
          refine AW.invV1v (pc' := 154) dX12_reads_151 mlX12_193 mX12_emits ly_57 rfl (c_X12_emits (dep := dep - 1) (by omega) (by decide)) ?_
          try simp only [Int.toNat_natCast, a3, e75, e29]
          refine AW.iconst (pc' := 155) dX12_reads_154 ?_
          refine AW.zret dX12_reads_155 ?_ ?_ (by first | exact Or.inl rfl | exact Or.inr rfl | exact b2_01 _ | assumption | (subst_vars; omega))
          · refine congrArg (fun z : Int => (some (vI z) : Option AV)) ?_
            unfold rdM
            rw [if_neg (by omega), if_neg (fun y => y.elim (fun z => absurd z (by decide)) (fun z => absurd (List.length_pos_iff.mpr z) (by omega)))]
          · unfold rdM
            rw [if_neg (by omega), if_neg (fun y => y.elim (fun z => absurd z (by decide)) (fun z => absurd (List.length_pos_iff.mpr z) (by omega)))]
            exact s144.emit 901
        · refine AW.iconst (pc' := 141) dX12_reads_140 ?_
          refine AW.zret dX12_reads_141 ?_ ?_ (by first | exact Or.inl rfl | exact Or.inr rfl | exact b2_01 _ | assumption | (subst_vars; omega))
          · refine congrArg (fun z : Int => (some (vI z) : Option AV)) ?_
            unfold rdM
            rw [if_neg (by omega), if_pos (by first | exact Or.inl rfl | (right; intro y; rw [y] at a7; simp only [List.length_nil] at a7; omega))]
          · unfold rdM
            rw [if_neg (by omega), if_pos (by first | exact Or.inl rfl | (right; intro y; rw [y] at a7; simp only [List.length_nil] at a7; omega))]
            exact ms
    · refine AW.iload_n (pc' := 59) dX12_reads_58 rfl ?_
      refine AW.if_eq (tgt := 78) (pc' := 62) dX12_reads_59 (by first | assumption | omega | (constructor <;> omega) | (simp only [Int.toNat_natCast]; omega) | exact b2_in _) (fun c59 => ?_) (fun c59 => ?_)
      · have ew : w = false := by
          cases w with
          | false => rfl
          | true => exact absurd c59 (by decide)
        subst ew
        simp only [Bool.false_eq_true, if_false, reduceIte]
        refine AW.aload_n (pc' := 79) dX12_reads_78 rfl ?_
        refine AW.aload_n (pc' := 80) dX12_reads_79 rfl ?_
        refine AW.getR (pc' := 83) dX12_reads_80 ly_57 fX12_65 rfl ?_
        refine AW.aload_n (pc' := 84) dX12_reads_83 rfl ?_
        refine AW.getI (pc' := 87) dX12_reads_84 ly_57 fX12_200 rfl (fun r84 => ?_)
        try simp only [a3, e75, e29] at r84 ⊢
        first | refine AW.ialdN (pc' := 88) dX12_reads_87 ly_75 (by first | assumption | omega | (constructor <;> omega) | (simp only [Int.toNat_natCast]; omega) | exact b2_in _) (by decide) (fun r87 => ?_) | refine AW.iald (pc' := 88) dX12_reads_87 ly_75 (by first | assumption | omega | (constructor <;> omega) | (simp only [Int.toNat_natCast]; omega) | exact b2_in _) (by first | assumption | omega | (constructor <;> omega) | (simp only [Int.toNat_natCast]; omega) | exact b2_in _) (by decide) (fun r87 => ?_)
        try simp only [a3, e75, e29] at r87 ⊢
        refine AW.invQ1 (pc' := 91) dX12_reads_88 mlX12_229 mX12_behind ly_57 rfl (c_X12_behindAll (dep := dep - 1) (by omega) ms (by rw [e29]; exact qw) qb (by assumption)) (fun h88 s88 => ?_)
        try simp only [Int.toNat_natCast, a3, e75, e29]
        first
        | (have rst0 := rst)
        | (obtain ⟨r, hr⟩ : ∃ r, r = behF A P T O s S C (g 75 A.toNat) := ⟨_, rfl⟩
           rw [← hr]
           have rs := s88
           rw [← hr] at rs
           have rwf : WFr (g 57 29) r.2 := by rw [hr]; exact behF_wf qw (by omega)
           have rup : 0 ≤ r.1 → A < r.2.1 := fun y => by rw [hr] at y ⊢; exact behF_up y
           have rl : 0 < r.2.2.2.2.2.1.length := by have := rwf.2.2.2.2.2.2.1; omega
           have rst := rdM_step (B := g 75) (E := g 57 29) (n := n) (w := false) (A := A) (P := P) (T := T) (O := O) (s := s) (S := S) (C := C) r hr (by omega)
           have rms : MS g base r.2.1 r.2.2.1 r.2.2.2.1 r.2.2.2.2.1 (r.2.2.2.2.2.1.headD 0 :: r.2.2.2.2.2.1.tail) r.2.2.2.2.2.2 h88 := by rw [← list_ht rl]; exact rs
           have rwf2 : WFr (g 57 29) (r.2.1, (r.2.2.1, (r.2.2.2.1, (r.2.2.2.2.1, (r.2.2.2.2.2.1.headD 0 :: r.2.2.2.2.2.1.tail, r.2.2.2.2.2.2))))) := by rw [← list_ht rl]; exact rwf
           have r1i : -1 ≤ r.1 ∧ r.1 ≤ 1 := by rw [hr]; exact behF_r1 _ _ _ _ _ _ _ _)
        refine AW.istore2n (pc' := 92) dX12_reads_91 (by decide) rfl ?_
        refine AW.iload_n (pc' := 93) dX12_reads_92 rfl ?_
        refine AW.if_ge (tgt := 98) (pc' := 96) dX12_reads_93 (by first | assumption | omega | (constructor <;> omega) | (simp only [Int.toNat_natCast]; omega) | exact b2_in _) (fun c93 => ?_) (fun c93 => ?_)
        · refine AW.iload_n (pc' := 99) dX12_reads_98 rfl ?_
          refine AW.if_eq (tgt := 115) (pc' := 102) dX12_reads_99 (by first | assumption | omega | (constructor <;> omega) | (simp only [Int.toNat_natCast]; omega) | exact b2_in _) (fun c99 => ?_) (fun c99 => ?_)
          · refine AW.iload_n (pc' := 116) dX12_reads_115 rfl ?_
            refine AW.iconst (pc' := 117) dX12_reads_116 ?_
            refine AW.icmp_ne (tgt := 124) (pc' := 120) dX12_reads_117 (by first | assumption | omega | (constructor <;> omega) | (simp only [Int.toNat_natCast]; omega) | exact b2_in _) (by first | assumption | omega | (constructor <;> omega) | (simp only [Int.toNat_natCast]; omega) | exact b2_in _) (fun c117 => ?_) (fun c117 => ?_)
            · refine AW.iconst (pc' := 125) dX12_reads_124 ?_
              refine AW.istore1n (pc' := 126) dX12_reads_125 (by decide) rfl ?_
              refine AW.goto (tgt := 47) dX12_reads_126 ?_
              first
              | (rw [if_neg (by omega)] at rst
                 rw [rst]
                 exact AW.weak (ih _ r.2.1 r.2.2.1 r.2.2.2.1 r.2.2.2.2.1 _ _ _ h72 rms rwf2 (by have := rup (by omega); omega)) (by (repeat' first | exact LSub.e | refine LSub.n ?_ | refine LSub.c ?_ ?_) <;> first | rfl | exact congrArg Sum.inl (by first | rfl | omega | first | (rw [if_pos (by simp; omega)]) | (rw [if_neg (by simp; omega)]) | (simp; omega)) | exact congrArg (fun z : Int => (vL z : AV)) (by first | rfl | omega | first | (rw [if_pos (by simp; omega)]) | (rw [if_neg (by simp; omega)]) | (simp; omega))))
              | (rw [if_neg (by omega)] at rst
                 rw [rst]
                 exact AW.weak (ih _ r.2.1 r.2.2.1 r.2.2.2.1 r.2.2.2.2.1 _ _ _ h88 rms rwf2 (by have := rup (by omega); omega)) (by (repeat' first | exact LSub.e | refine LSub.n ?_ | refine LSub.c ?_ ?_) <;> first | rfl | exact congrArg Sum.inl (by first | rfl | omega | first | (rw [if_pos (by simp; omega)]) | (rw [if_neg (by simp; omega)]) | (simp; omega)) | exact congrArg (fun z : Int => (vL z : AV)) (by first | rfl | omega | first | (rw [if_pos (by simp; omega)]) | (rw [if_neg (by simp; omega)]) | (simp; omega))))
            · refine AW.iconst (pc' := 121) dX12_reads_120 ?_
              refine AW.goto (tgt := 125) dX12_reads_121 ?_
              refine AW.istore1n (pc' := 126) dX12_reads_125 (by decide) rfl ?_
              refine AW.goto (tgt := 47) dX12_reads_126 ?_
              first
              | (rw [if_neg (by omega)] at rst
                 rw [rst]
                 exact AW.weak (ih _ r.2.1 r.2.2.1 r.2.2.2.1 r.2.2.2.2.1 _ _ _ h72 rms rwf2 (by have := rup (by omega); omega)) (by (repeat' first | exact LSub.e | refine LSub.n ?_ | refine LSub.c ?_ ?_) <;> first | rfl | exact congrArg Sum.inl (by first | rfl | omega | first | (rw [if_pos (by simp; omega)]) | (rw [if_neg (by simp; omega)]) | (simp; omega)) | exact congrArg (fun z : Int => (vL z : AV)) (by first | rfl | omega | first | (rw [if_pos (by simp; omega)]) | (rw [if_neg (by simp; omega)]) | (simp; omega))))
              | (rw [if_neg (by omega)] at rst
                 rw [rst]
                 exact AW.weak (ih _ r.2.1 r.2.2.1 r.2.2.2.1 r.2.2.2.2.1 _ _ _ h88 rms rwf2 (by have := rup (by omega); omega)) (by (repeat' first | exact LSub.e | refine LSub.n ?_ | refine LSub.c ?_ ?_) <;> first | rfl | exact congrArg Sum.inl (by first | rfl | omega | first | (rw [if_pos (by simp; omega)]) | (rw [if_neg (by simp; omega)]) | (simp; omega)) | exact congrArg (fun z : Int => (vL z : AV)) (by first | rfl | omega | first | (rw [if_pos (by simp; omega)]) | (rw [if_neg (by simp; omega)]) | (simp; omega))))
          · refine AW.iload_n (pc' := 103) dX12_reads_102 rfl ?_
            refine AW.if_ne (tgt := 110) (pc' := 106) dX12_reads_103 (by first | assumption | omega | (constructor <;> omega) | (simp only [Int.toNat_natCast]; omega) | exact b2_in _) (fun c103 => ?_) (fun c103 => ?_)
            · refine AW.iconst (pc' := 111) dX12_reads_110 ?_
              refine AW.istore1n (pc' := 112) dX12_reads_111 (by decide) rfl ?_
              refine AW.goto (tgt := 126) dX12_reads_112 ?_
              refine AW.goto (tgt := 47) dX12_reads_126 ?_
              first
              | (rw [if_neg (by omega)] at rst
                 rw [rst]
                 exact AW.weak (ih _ r.2.1 r.2.2.1 r.2.2.2.1 r.2.2.2.2.1 _ _ _ h72 rms rwf2 (by have := rup (by omega); omega)) (by (repeat' first | exact LSub.e | refine LSub.n ?_ | refine LSub.c ?_ ?_) <;> first | rfl | exact congrArg Sum.inl (by first | rfl | omega | first | (rw [if_pos (by simp; omega)]) | (rw [if_neg (by simp; omega)]) | (simp; omega)) | exact congrArg (fun z : Int => (vL z : AV)) (by first | rfl | omega | first | (rw [if_pos (by simp; omega)]) | (rw [if_neg (by simp; omega)]) | (simp; omega))))
              | (rw [if_neg (by omega)] at rst
                 rw [rst]
                 exact AW.weak (ih _ r.2.1 r.2.2.1 r.2.2.2.1 r.2.2.2.2.1 _ _ _ h88 rms rwf2 (by have := rup (by omega); omega)) (by (repeat' first | exact LSub.e | refine LSub.n ?_ | refine LSub.c ?_ ?_) <;> first | rfl | exact congrArg Sum.inl (by first | rfl | omega | first | (rw [if_pos (by simp; omega)]) | (rw [if_neg (by simp; omega)]) | (simp; omega)) | exact congrArg (fun z : Int => (vL z : AV)) (by first | rfl | omega | first | (rw [if_pos (by simp; omega)]) | (rw [if_neg (by simp; omega)]) | (simp; omega))))
            · refine AW.iconst (pc' := 107) dX12_reads_106 ?_
              refine AW.goto (tgt := 111) dX12_reads_107 ?_
              refine AW.istore1n (pc' := 112) dX12_reads_111 (by decide) rfl ?_
              refine AW.goto (tgt := 126) dX12_reads_112 ?_
              refine AW.goto (tgt := 47) dX12_reads_126 ?_
              first
              | (rw [if_neg (by omega)] at rst
                 rw [rst]
                 exact AW.weak (ih _ r.2.1 r.2.2.1 r.2.2.2.1 r.2.2.2.2.1 _ _ _ h72 rms rwf2 (by have := rup (by omega); omega)) (by (repeat' first | exact LSub.e | refine LSub.n ?_ | refine LSub.c ?_ ?_) <;> first | rfl | exact congrArg Sum.inl (by first | rfl | omega | first | (rw [if_pos (by simp; omega)]) | (rw [if_neg (by simp; omega)]) | (simp; omega)) | exact congrArg (fun z : Int => (vL z : AV)) (by first | rfl | omega | first | (rw [if_pos (by simp; omega)]) | (rw [if_neg (by simp; omega)]) | (simp; omega))))
              | (rw [if_neg (by omega)] at rst
                 rw [rst]
                 exact AW.weak (ih _ r.2.1 r.2.2.1 r.2.2.2.1 r.2.2.2.2.1 _ _ _ h88 rms rwf2 (by have := rup (by omega); omega)) (by (repeat' first | exact LSub.e | refine LSub.n ?_ | refine LSub.c ?_ ?_) <;> first | rfl | exact congrArg Sum.inl (by first | rfl | omega | first | (rw [if_pos (by simp; omega)]) | (rw [if_neg (by simp; omega)]) | (simp; omega)) | exact congrArg (fun z : Int => (vL z : AV)) (by first | rfl | omega | first | (rw [if_pos (by simp; omega)]) | (rw [if_neg (by simp; omega)]) | (simp; omega))))
        · refine AW.iconst (pc' := 97) dX12_reads_96 ?_
          refine AW.zret dX12_reads_97 ?_ ?_ (by first | exact Or.inl rfl | exact Or.inr rfl | exact b2_01 _ | assumption | (subst_vars; omega))
          · refine congrArg (fun z : Int => (some (vI z) : Option AV)) ?_
            rw [rst, if_pos (by omega)]
          · rw [rst, if_pos (by omega)]
            exact rs
      · have ew : w = true := by
          cases w with
          | false => exact absurd rfl c59
          | true => rfl
        subst ew
        simp only [if_true, reduceIte]
        refine AW.aload_n (pc' := 63) dX12_reads_62 rfl ?_
        refine AW.aload_n (pc' := 64) dX12_reads_63 rfl ?_
        refine AW.getR (pc' := 67) dX12_reads_64 ly_57 fX12_65 rfl ?_
        refine AW.aload_n (pc' := 68) dX12_reads_67 rfl ?_
        refine AW.getI (pc' := 71) dX12_reads_68 ly_57 fX12_200 rfl (fun r68 => ?_)
        try simp only [a3, e75, e29] at r68 ⊢
        first | refine AW.ialdN (pc' := 72) dX12_reads_71 ly_75 (by first | assumption | omega | (constructor <;> omega) | (simp only [Int.toNat_natCast]; omega) | exact b2_in _) (by decide) (fun r71 => ?_) | refine AW.iald (pc' := 72) dX12_reads_71 ly_75 (by first | assumption | omega | (constructor <;> omega) | (simp only [Int.toNat_natCast]; omega) | exact b2_in _) (by first | assumption | omega | (constructor <;> omega) | (simp only [Int.toNat_natCast]; omega) | exact b2_in _) (by decide) (fun r71 => ?_)
        try simp only [a3, e75, e29] at r71 ⊢
        refine AW.invQ1 (pc' := 75) dX12_reads_72 mlX12_226 mX12_wanted ly_57 rfl (c_X12_wanted (dep := dep - 1) (by omega) ms (by rw [e29]; exact qw) qb (by assumption)) (fun h72 s72 => ?_)
        try simp only [Int.toNat_natCast, a3, e75, e29]
        obtain ⟨r, hr⟩ : ∃ r, r = wantF (g 75) (g 57 29) A P T O (s :: S) C (g 75 A.toNat) := ⟨_, rfl⟩
        rw [← hr]
        have rs := s72
        rw [e75, e29, ← hr] at rs
        have rwf : WFr (g 57 29) r.2 := by rw [hr]; exact wantF_wf qw rfl (by omega)
        have rup : 0 ≤ r.1 → A < r.2.1 := fun y => by rw [hr] at y ⊢; exact wantF_up y rfl (by omega)
        have rl : 0 < r.2.2.2.2.2.1.length := by have := rwf.2.2.2.2.2.2.1; omega
        have rst := rdM_step (B := g 75) (E := g 57 29) (n := n) (w := true) (A := A) (P := P) (T := T) (O := O) (s := s) (S := S) (C := C) r hr (by omega)
        have rms : MS g base r.2.1 r.2.2.1 r.2.2.2.1 r.2.2.2.2.1 (r.2.2.2.2.2.1.headD 0 :: r.2.2.2.2.2.1.tail) r.2.2.2.2.2.2 h72 := by rw [← list_ht rl]; exact rs
        have rwf2 : WFr (g 57 29) (r.2.1, (r.2.2.1, (r.2.2.2.1, (r.2.2.2.2.1, (r.2.2.2.2.2.1.headD 0 :: r.2.2.2.2.2.1.tail, r.2.2.2.2.2.2))))) := by rw [← list_ht rl]; exact rwf
        have r1i : -1 ≤ r.1 ∧ r.1 ≤ 1 := by rw [hr]; exact wantF_r1 _ _ _ _ _ _ _ _ _
        refine AW.goto (tgt := 91) dX12_reads_75 ?_
        first
        | (have rst0 := rst)
        | (obtain ⟨r, hr⟩ : ∃ r, r = behF A P T O s S C (g 75 A.toNat) := ⟨_, rfl⟩
           rw [← hr]
           have rs := s88
           rw [← hr] at rs
           have rwf : WFr (g 57 29) r.2 := by rw [hr]; exact behF_wf qw (by omega)
           have rup : 0 ≤ r.1 → A < r.2.1 := fun y => by rw [hr] at y ⊢; exact behF_up y
           have rl : 0 < r.2.2.2.2.2.1.length := by have := rwf.2.2.2.2.2.2.1; omega
           have rst := rdM_step (B := g 75) (E := g 57 29) (n := n) (w := false) (A := A) (P := P) (T := T) (O := O) (s := s) (S := S) (C := C) r hr (by omega)
           have rms : MS g base r.2.1 r.2.2.1 r.2.2.2.1 r.2.2.2.2.1 (r.2.2.2.2.2.1.headD 0 :: r.2.2.2.2.2.1.tail) r.2.2.2.2.2.2 h88 := by rw [← list_ht rl]; exact rs
           have rwf2 : WFr (g 57 29) (r.2.1, (r.2.2.1, (r.2.2.2.1, (r.2.2.2.2.1, (r.2.2.2.2.2.1.headD 0 :: r.2.2.2.2.2.1.tail, r.2.2.2.2.2.2))))) := by rw [← list_ht rl]; exact rwf
           have r1i : -1 ≤ r.1 ∧ r.1 ≤ 1 := by rw [hr]; exact behF_r1 _ _ _ _ _ _ _ _)
        refine AW.istore2n (pc' := 92) dX12_reads_91 (by decide) rfl ?_
        refine AW.iload_n (pc' := 93) dX12_reads_92 rfl ?_
        refine AW.if_ge (tgt := 98) (pc' := 96) dX12_reads_93 (by first | assumption | omega | (constructor <;> omega) | (simp only [Int.toNat_natCast]; omega) | exact b2_in _) (fun c93 => ?_) (fun c93 => ?_)
        · refine AW.iload_n (pc' := 99) dX12_reads_98 rfl ?_
          refine AW.if_eq (tgt := 115) (pc' := 102) dX12_reads_99 (by first | assumption | omega | (constructor <;> omega) | (simp only [Int.toNat_natCast]; omega) | exact b2_in _) (fun c99 => ?_) (fun c99 => ?_)
          · refine AW.iload_n (pc' := 116) dX12_reads_115 rfl ?_
            refine AW.iconst (pc' := 117) dX12_reads_116 ?_
            refine AW.icmp_ne (tgt := 124) (pc' := 120) dX12_reads_117 (by first | assumption | omega | (constructor <;> omega) | (simp only [Int.toNat_natCast]; omega) | exact b2_in _) (by first | assumption | omega | (constructor <;> omega) | (simp only [Int.toNat_natCast]; omega) | exact b2_in _) (fun c117 => ?_) (fun c117 => ?_)
            · refine AW.iconst (pc' := 125) dX12_reads_124 ?_
              refine AW.istore1n (pc' := 126) dX12_reads_125 (by decide) rfl ?_
              refine AW.goto (tgt := 47) dX12_reads_126 ?_
              first
              | (rw [if_neg (by omega)] at rst
                 rw [rst]
                 exact AW.weak (ih _ r.2.1 r.2.2.1 r.2.2.2.1 r.2.2.2.2.1 _ _ _ h72 rms rwf2 (by have := rup (by omega); omega)) (by (repeat' first | exact LSub.e | refine LSub.n ?_ | refine LSub.c ?_ ?_) <;> first | rfl | exact congrArg Sum.inl (by first | rfl | omega | first | (rw [if_pos (by simp; omega)]) | (rw [if_neg (by simp; omega)]) | (simp; omega)) | exact congrArg (fun z : Int => (vL z : AV)) (by first | rfl | omega | first | (rw [if_pos (by simp; omega)]) | (rw [if_neg (by simp; omega)]) | (simp; omega))))
              | (rw [if_neg (by omega)] at rst
                 rw [rst]
                 exact AW.weak (ih _ r.2.1 r.2.2.1 r.2.2.2.1 r.2.2.2.2.1 _ _ _ h88 rms rwf2 (by have := rup (by omega); omega)) (by (repeat' first | exact LSub.e | refine LSub.n ?_ | refine LSub.c ?_ ?_) <;> first | rfl | exact congrArg Sum.inl (by first | rfl | omega | first | (rw [if_pos (by simp; omega)]) | (rw [if_neg (by simp; omega)]) | (simp; omega)) | exact congrArg (fun z : Int => (vL z : AV)) (by first | rfl | omega | first | (rw [if_pos (by simp; omega)]) | (rw [if_neg (by simp; omega)]) | (simp; omega))))
            · refine AW.iconst (pc' := 121) dX12_reads_120 ?_
              refine AW.goto (tgt := 125) dX12_reads_121 ?_
              refine AW.istore1n (pc' := 126) dX12_reads_125 (by decide) rfl ?_
              refine AW.goto (tgt := 47) dX12_reads_126 ?_
              first
              | (rw [if_neg (by omega)] at rst
                 rw [rst]
                 exact AW.weak (ih _ r.2.1 r.2.2.1 r.2.2.2.1 r.2.2.2.2.1 _ _ _ h72 rms rwf2 (by have := rup (by omega); omega)) (by (repeat' first | exact LSub.e | refine LSub.n ?_ | refine LSub.c ?_ ?_) <;> first | rfl | exact congrArg Sum.inl (by first | rfl | omega | first | (rw [if_pos (by simp; omega)]) | (rw [if_neg (by simp; omega)]) | (simp; omega)) | exact congrArg (fun z : Int => (vL z : AV)) (by first | rfl | omega | first | (rw [if_pos (by simp; omega)]) | (rw [if_neg (by simp; omega)]) | (simp; omega))))
              | (rw [if_neg (by omega)] at rst
                 rw [rst]
                 exact AW.weak (ih _ r.2.1 r.2.2.1 r.2.2.2.1 r.2.2.2.2.1 _ _ _ h88 rms rwf2 (by have := rup (by omega); omega)) (by (repeat' first | exact LSub.e | refine LSub.n ?_ | refine LSub.c ?_ ?_) <;> first | rfl | exact congrArg Sum.inl (by first | rfl | omega | first | (rw [if_pos (by simp; omega)]) | (rw [if_neg (by simp; omega)]) | (simp; omega)) | exact congrArg (fun z : Int => (vL z : AV)) (by first | rfl | omega | first | (rw [if_pos (by simp; omega)]) | (rw [if_neg (by simp; omega)]) | (simp; omega))))
          · refine AW.iload_n (pc' := 103) dX12_reads_102 rfl ?_
            refine AW.if_ne (tgt := 110) (pc' := 106) dX12_reads_103 (by first | assumption | omega | (constructor <;> omega) | (simp only [Int.toNat_natCast]; omega) | exact b2_in _) (fun c103 => ?_) (fun c103 => ?_)
            · refine AW.iconst (pc' := 111) dX12_reads_110 ?_
              refine AW.istore1n (pc' := 112) dX12_reads_111 (by decide) rfl ?_
              refine AW.goto (tgt := 126) dX12_reads_112 ?_
              refine AW.goto (tgt := 47) dX12_reads_126 ?_
              first
              | (rw [if_neg (by omega)] at rst
                 rw [rst]
                 exact AW.weak (ih _ r.2.1 r.2.2.1 r.2.2.2.1 r.2.2.2.2.1 _ _ _ h72 rms rwf2 (by have := rup (by omega); omega)) (by (repeat' first | exact LSub.e | refine LSub.n ?_ | refine LSub.c ?_ ?_) <;> first | rfl | exact congrArg Sum.inl (by first | rfl | omega | first | (rw [if_pos (by simp; omega)]) | (rw [if_neg (by simp; omega)]) | (simp; omega)) | exact congrArg (fun z : Int => (vL z : AV)) (by first | rfl | omega | first | (rw [if_pos (by simp; omega)]) | (rw [if_neg (by simp; omega)]) | (simp; omega))))
              | (rw [if_neg (by omega)] at rst
                 rw [rst]
                 exact AW.weak (ih _ r.2.1 r.2.2.1 r.2.2.2.1 r.2.2.2.2.1 _ _ _ h88 rms rwf2 (by have := rup (by omega); omega)) (by (repeat' first | exact LSub.e | refine LSub.n ?_ | refine LSub.c ?_ ?_) <;> first | rfl | exact congrArg Sum.inl (by first | rfl | omega | first | (rw [if_pos (by simp; omega)]) | (rw [if_neg (by simp; omega)]) | (simp; omega)) | exact congrArg (fun z : Int => (vL z : AV)) (by first | rfl | omega | first | (rw [if_pos (by simp; omega)]) | (rw [if_neg (by simp; omega)]) | (simp; omega))))
            · refine AW.iconst (pc' := 107) dX12_reads_106 ?_
              refine AW.goto (tgt := 111) dX12_reads_107 ?_
              refine AW.istore1n (pc' := 112) dX12_reads_111 (by decide) rfl ?_
              refine AW.goto (tgt := 126) dX12_reads_112 ?_
              refine AW.goto (tgt := 47) dX12_reads_126 ?_
              first
              | (rw [if_neg (by omega)] at rst
                 rw [rst]
                 exact AW.weak (ih _ r.2.1 r.2.2.1 r.2.2.2.1 r.2.2.2.2.1 _ _ _ h72 rms rwf2 (by have := rup (by omega); omega)) (by (repeat' first | exact LSub.e | refine LSub.n ?_ | refine LSub.c ?_ ?_) <;> first | rfl | exact congrArg Sum.inl (by first | rfl | omega | first | (rw [if_pos (by simp; omega)]) | (rw [if_neg (by simp; omega)]) | (simp; omega)) | exact congrArg (fun z : Int => (vL z : AV)) (by first | rfl | omega | first | (rw [if_pos (by simp; omega)]) | (rw [if_neg (by simp; omega)]) | (simp; omega))))
              | (rw [if_neg (by omega)] at rst
                 rw [rst]
                 exact AW.weak (ih _ r.2.1 r.2.2.1 r.2.2.2.1 r.2.2.2.2.1 _ _ _ h88 rms rwf2 (by have := rup (by omega); omega)) (by (repeat' first | exact LSub.e | refine LSub.n ?_ | refine LSub.c ?_ ?_) <;> first | rfl | exact congrArg Sum.inl (by first | rfl | omega | first | (rw [if_pos (by simp; omega)]) | (rw [if_neg (by simp; omega)]) | (simp; omega)) | exact congrArg (fun z : Int => (vL z : AV)) (by first | rfl | omega | first | (rw [if_pos (by simp; omega)]) | (rw [if_neg (by simp; omega)]) | (simp; omega))))
        · refine AW.iconst (pc' := 97) dX12_reads_96 ?_
          refine AW.zret dX12_reads_97 ?_ ?_ (by first | exact Or.inl rfl | exact Or.inr rfl | exact b2_01 _ | assumption | (subst_vars; omega))
          · refine congrArg (fun z : Int => (some (vI z) : Option AV)) ?_
            rw [rst, if_pos (by omega)]
          · rw [rst, if_pos (by omega)]
            exact rs
