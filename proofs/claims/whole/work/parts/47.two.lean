/-! laws: worked out, the reference -/
def twF (t a b : Int) : Int := if t = 124 then b2 (a ≠ 0 ∨ b ≠ 0) else if t = 38 then b2 (a ≠ 0 ∧ b ≠ 0) else if t = 60 then b2 (a < b) else if t = 61 then b2 (a = b) else if t = 62 then b2 (b < a) else if t = 43 then wr (a + b) else if t = 45 then wr (a - b) else if t = 42 then wr (a * b) else if t = 47 then dvF a b else rmF a b
theorem inI_ite {c : Prop} [Decidable c] {a b : Int} (ha : inI a) (hb : inI b) : inI (if c then a else b) := by
  by_cases h : c
  · rw [if_pos h]; exact ha
  · rw [if_neg h]; exact hb
theorem twF_in (t a b : Int) : inI (twF t a b) := by
  unfold twF
  exact inI_ite (b2_in _) (inI_ite (b2_in _) (inI_ite (b2_in _) (inI_ite (b2_in _) (inI_ite (b2_in _) (inI_ite (wr_in _) (inI_ite (wr_in _) (inI_ite (wr_in _) (inI_ite (dvF_in _ _) (rmF_in _ _)))))))))
def nmF (h : Hp) (r : Nat) (y : Int) (s : Nat) (draw t : Int) : Int := if t = 102 then (fThen (h 58) (h 59) r y).tdiv 10 else if t = 116 then h 60 r else if t = 115 then h 61 r else if t = 121 then y else if t = 112 then lessF (h 57 13) (h 58) (h 59) r y else if t = 110 then h 57 13 else if t = 103 then h 63 s else if t = 107 then h 62 s else draw
def evF (nm : Int → Int) : List Int → List Int → Bool → Int
  | [], _, _ => 0
  | t :: R, D, c => if 1000 ≤ t then evF nm R ((t - 1000) :: D) c else if t = 900 then evF nm R D.tail (decide (D.headD 0 ≠ 0)) else if t = 901 then (if c = true then D.headD 0 else evF nm R D.tail true) else if t = 33 then evF nm R (b2 (D.headD 0 = 0) :: D.tail) c else if t = 95 then evF nm R (wr (-(D.headD 0)) :: D.tail) c else if nmP t then evF nm R (nm t :: D) c else evF nm R (twF t (D.tail.headD 0) (D.headD 0) :: D.tail.tail) c
abbrev opP (t : Int) : Prop := t = 124 ∨ t = 38 ∨ t = 60 ∨ t = 61 ∨ t = 62 ∨ t = 43 ∨ t = 45 ∨ t = 42 ∨ t = 47 ∨ t = 37
/-- a stack is never too small -/
def okT : List Int → Nat → Prop
  | [], _ => True
  | t :: R, d => if 1000 ≤ t then okT R (d + 1) else if t = 900 ∨ t = 901 then 1 ≤ d ∧ okT R (d - 1) else if t = 33 ∨ t = 95 then 1 ≤ d ∧ okT R d else if nmP t then okT R (d + 1) else opP t ∧ 2 ≤ d ∧ okT R (d - 1)
def Hid (P : Prop) : Prop := P
def WM (g : Hp) (D : List Int) (x : Hp) : Prop := EX [57, 80] g x ∧ (∀ j : Nat, j ≠ 38 → x 57 j = g 57 j) ∧ x 57 38 = D.length ∧ STK (x 80) 0 D
theorem WM.ep {g x : Hp} {D : List Int} (H : WM g D x) : EP mscr g x := fun k j z => by
  by_cases h : k = 57
  · subst h
    exact H.2.1 j (fun e => by subst e; simp [mscr] at z)
  · rw [H.1 k (by
      have : k ≠ 80 := fun y => by subst y; simp [mscr] at z
      simp; omega)]
theorem WM.push {g x : Hp} {D : List Int} (H : WM g D x) (v : Int) : WM g (v :: D) (hset (hset x 80 (x 57 38).toNat v) 57 38 (x 57 38 + 1)) := by
  obtain ⟨a1, a2, a3, a4⟩ := H
  refine ⟨(a1.st rfl).st rfl, fun j hj => by rw [hset_slot hj, hset_cell (by decide)]; exact a2 j hj, by rw [hset_same, a3]; simp, ?_⟩
  refine a4.push (v := v) (fun j => ?_)
  rw [hset_other 80 (by decide), hrow, a3]
  simp
theorem WM.pop {g x : Hp} {D : List Int} {v : Int} (H : WM g (v :: D) x) : WM g D (hset x 57 38 (x 57 38 - 1)) ∧ x 57 38 = D.length + 1 ∧ x 80 D.length = v := by
  obtain ⟨a1, a2, a3, a4⟩ := H
  have l : x 57 38 = D.length + 1 := by rw [a3]; simp
  have q := a4.pop
  rw [Nat.zero_add] at q
  refine ⟨⟨a1.st rfl, fun j hj => by rw [hset_slot hj]; exact a2 j hj, by rw [hset_same, l]; omega, ?_⟩, l, q.2⟩
  rw [hset_other 80 (by decide)]
  exact q.1
theorem WM.top {g x : Hp} {D : List Int} {v : Int} (H : WM g (v :: D) x) (w : Int) {i : Nat} (hi : i = D.length) : WM g (w :: D) (hset x 80 i w) := by
  obtain ⟨a1, a2, a3, a4⟩ := H
  subst hi
  refine ⟨a1.st rfl, fun j hj => by rw [hset_cell (by decide)]; exact a2 j hj, by rw [hset_cell (by decide), a3]; simp, ?_⟩
  refine a4.pop.1.push (v := w) (fun j => ?_)
  rw [hrow, Nat.zero_add]
set_option maxRecDepth 100000 in
set_option maxHeartbeats 4000000 in
theorem c_X12_two {K : KT} {dep : Nat} {h : Hp} {t a b : Int}  (qt : t = 124 ∨ t = 38 ∨ t = 60 ∨ t = 61 ∨ t = 62 ∨ t = 43 ∨ t = 45 ∨ t = 42 ∨ t = 47 ∨ t = 37) (q1 : inI t) (q2 : inI a) (q3 : inI b) : AM K yX12_two cX12_two 3 (some .int) dep [vI t, vI a, vI b] h (some (vI (twF t a b))) (h) := by
  refine AM.of (own := RX12) (ls := [some (vI t), some (vI a), some (vI b)]) rfl (by decide +kernel) (by exact Nat.le_of_ble_eq_true rfl) rfl (fun hO => ?_)
  refine AW.iload_n (pc' := 1) dX12_two_0 rfl ?_
  by_cases s1_0 : t = 38
  · refine AW.top s1_0 ?_
    refine AW.lookup (tgt := 98) (off := 97) dX12_two_1 (by decide) (by decide) (by decide +kernel) ?_ (by decide)
    refine AW.iload_n (pc' := 99) dX12_two_98 rfl ?_
    refine AW.if_eq (tgt := 110) (pc' := 102) dX12_two_99 (by first | assumption | omega | (constructor <;> omega) | (simp only [Int.toNat_natCast]; omega) | exact b2_in _) (fun c99 => ?_) (fun c99 => ?_)
    · refine AW.iconst (pc' := 111) dX12_two_110 ?_
      refine AW.iret dX12_two_111 ?_ ?_
      · refine congrArg (fun z : Int => (some (vI z) : Option AV)) ?_
        unfold twF
        rw [if_neg (by omega), if_pos (by omega)]
        first | (rw [b2_t (by omega)]; done) | (rw [b2_f (by omega)]; done)
      · rfl
    · refine AW.iload_n (pc' := 103) dX12_two_102 rfl ?_
      refine AW.if_eq (tgt := 110) (pc' := 106) dX12_two_103 (by first | assumption | omega | (constructor <;> omega) | (simp only [Int.toNat_natCast]; omega) | exact b2_in _) (fun c103 => ?_) (fun c103 => ?_)
      · refine AW.iconst (pc' := 111) dX12_two_110 ?_
        refine AW.iret dX12_two_111 ?_ ?_
        · refine congrArg (fun z : Int => (some (vI z) : Option AV)) ?_
          unfold twF
          rw [if_neg (by omega), if_pos (by omega)]
          first | (rw [b2_t (by omega)]; done) | (rw [b2_f (by omega)]; done)
        · rfl
      · refine AW.iconst (pc' := 107) dX12_two_106 ?_
        refine AW.goto (tgt := 111) dX12_two_107 ?_
        refine AW.iret dX12_two_111 ?_ ?_
        · refine congrArg (fun z : Int => (some (vI z) : Option AV)) ?_
          unfold twF
          rw [if_neg (by omega), if_pos (by omega)]
          first | (rw [b2_t (by omega)]; done) | (rw [b2_f (by omega)]; done)
        · rfl
  by_cases s1_1 : t = 42
  · refine AW.top s1_1 ?_
    refine AW.lookup (tgt := 153) (off := 152) dX12_two_1 (by decide) (by decide) (by decide +kernel) ?_ (by decide)
    refine AW.iload_n (pc' := 154) dX12_two_153 rfl ?_
    refine AW.iload_n (pc' := 155) dX12_two_154 rfl ?_
    refine AW.imul (pc' := 156) dX12_two_155 ?_
    refine AW.cong (b := wr (a * b)) (wr_of _) ?_
    have wi := wr_in (a * b)
    refine AW.iret dX12_two_156 ?_ ?_
    · refine congrArg (fun z : Int => (some (vI z) : Option AV)) ?_
      unfold twF
      rw [if_neg (by omega), if_neg (by omega), if_neg (by omega), if_neg (by omega), if_neg (by omega), if_neg (by omega), if_neg (by omega), if_pos (by omega)]
      try rfl
    · rfl
  by_cases s1_2 : t = 43
  · refine AW.top s1_2 ?_
    refine AW.lookup (tgt := 145) (off := 144) dX12_two_1 (by decide) (by decide) (by decide +kernel) ?_ (by decide)
    refine AW.iload_n (pc' := 146) dX12_two_145 rfl ?_
    refine AW.iload_n (pc' := 147) dX12_two_146 rfl ?_
    refine AW.iadd (pc' := 148) dX12_two_147 ?_
    refine AW.cong (b := wr (a + b)) (wr_of _) ?_
    have wi := wr_in (a + b)
    refine AW.iret dX12_two_148 ?_ ?_
    · refine congrArg (fun z : Int => (some (vI z) : Option AV)) ?_
      unfold twF
      rw [if_neg (by omega), if_neg (by omega), if_neg (by omega), if_neg (by omega), if_neg (by omega), if_pos (by omega)]
      try rfl
    · rfl
  by_cases s1_3 : t = 45
  · refine AW.top s1_3 ?_
    refine AW.lookup (tgt := 149) (off := 148) dX12_two_1 (by decide) (by decide) (by decide +kernel) ?_ (by decide)
    refine AW.iload_n (pc' := 150) dX12_two_149 rfl ?_
    refine AW.iload_n (pc' := 151) dX12_two_150 rfl ?_
    refine AW.isub (pc' := 152) dX12_two_151 ?_
    refine AW.cong (b := wr (a - b)) (wr_of _) ?_
    have wi := wr_in (a - b)
    refine AW.iret dX12_two_152 ?_ ?_
    · refine congrArg (fun z : Int => (some (vI z) : Option AV)) ?_
      unfold twF
      rw [if_neg (by omega), if_neg (by omega), if_neg (by omega), if_neg (by omega), if_neg (by omega), if_neg (by omega), if_pos (by omega)]
      try rfl
    · rfl
  by_cases s1_4 : t = 47
  · refine AW.top s1_4 ?_
    refine AW.lookup (tgt := 157) (off := 156) dX12_two_1 (by decide) (by decide) (by decide +kernel) ?_ (by decide)
    refine AW.iload_n (pc' := 158) dX12_two_157 rfl ?_
    refine AW.if_ne (tgt := 165) (pc' := 161) dX12_two_158 (by first | assumption | omega | (constructor <;> omega) | (simp only [Int.toNat_natCast]; omega) | exact b2_in _) (fun c158 => ?_) (fun c158 => ?_)
    · refine AW.iload_n (pc' := 166) dX12_two_165 rfl ?_
      refine AW.iload_n (pc' := 167) dX12_two_166 rfl ?_
      refine AW.idiv (pc' := 168) dX12_two_167 (by first | assumption | omega | (constructor <;> omega) | (simp only [Int.toNat_natCast]; omega) | exact b2_in _) (by first | assumption | omega | (constructor <;> omega) | (simp only [Int.toNat_natCast]; omega) | exact b2_in _) (by first | assumption | omega | (constructor <;> omega) | (simp only [Int.toNat_natCast]; omega) | exact b2_in _) ?_
      first | refine AW.top (b := dvF a b) (by unfold dvF; rw [if_pos (by omega)]) ?_ | refine AW.cong (b := dvF a b) (by unfold dvF; rw [if_neg (by omega)]; exact wr_of _) ?_
      refine AW.iret dX12_two_168 ?_ ?_
      · refine congrArg (fun z : Int => (some (vI z) : Option AV)) ?_
        unfold twF
        rw [if_neg (by omega), if_neg (by omega), if_neg (by omega), if_neg (by omega), if_neg (by omega), if_neg (by omega), if_neg (by omega), if_neg (by omega), if_pos (by omega)]
        try rfl
      · rfl
    · refine AW.iconst (pc' := 162) dX12_two_161 ?_
      refine AW.goto (tgt := 168) dX12_two_162 ?_
      first | refine AW.top (b := dvF a b) (by unfold dvF; rw [if_pos (by omega)]) ?_ | refine AW.cong (b := dvF a b) (by unfold dvF; rw [if_neg (by omega)]; exact wr_of _) ?_
      refine AW.iret dX12_two_168 ?_ ?_
      · refine congrArg (fun z : Int => (some (vI z) : Option AV)) ?_
        unfold twF
        rw [if_neg (by omega), if_neg (by omega), if_neg (by omega), if_neg (by omega), if_neg (by omega), if_neg (by omega), if_neg (by omega), if_neg (by omega), if_pos (by omega)]
        try rfl
      · rfl
  by_cases s1_5 : t = 60
  · refine AW.top s1_5 ?_
    refine AW.lookup (tgt := 112) (off := 111) dX12_two_1 (by decide) (by decide) (by decide +kernel) ?_ (by decide)
    refine AW.iload_n (pc' := 113) dX12_two_112 rfl ?_
    refine AW.iload_n (pc' := 114) dX12_two_113 rfl ?_
    refine AW.icmp_ge (tgt := 121) (pc' := 117) dX12_two_114 (by first | assumption | omega | (constructor <;> omega) | (simp only [Int.toNat_natCast]; omega) | exact b2_in _) (by first | assumption | omega | (constructor <;> omega) | (simp only [Int.toNat_natCast]; omega) | exact b2_in _) (fun c114 => ?_) (fun c114 => ?_)
    · refine AW.iconst (pc' := 122) dX12_two_121 ?_
      refine AW.iret dX12_two_122 ?_ ?_
      · refine congrArg (fun z : Int => (some (vI z) : Option AV)) ?_
        unfold twF
        rw [if_neg (by omega), if_neg (by omega), if_pos (by omega)]
        first | (rw [b2_t (by omega)]; done) | (rw [b2_f (by omega)]; done)
      · rfl
    · refine AW.iconst (pc' := 118) dX12_two_117 ?_
      refine AW.goto (tgt := 122) dX12_two_118 ?_
      refine AW.iret dX12_two_122 ?_ ?_
      · refine congrArg (fun z : Int => (some (vI z) : Option AV)) ?_
        unfold twF
        rw [if_neg (by omega), if_neg (by omega), if_pos (by omega)]
        first | (rw [b2_t (by omega)]; done) | (rw [b2_f (by omega)]; done)
      · rfl
  by_cases s1_6 : t = 61
  · refine AW.top s1_6 ?_
    refine AW.lookup (tgt := 123) (off := 122) dX12_two_1 (by decide) (by decide) (by decide +kernel) ?_ (by decide)
    refine AW.iload_n (pc' := 124) dX12_two_123 rfl ?_
    refine AW.iload_n (pc' := 125) dX12_two_124 rfl ?_
    refine AW.icmp_ne (tgt := 132) (pc' := 128) dX12_two_125 (by first | assumption | omega | (constructor <;> omega) | (simp only [Int.toNat_natCast]; omega) | exact b2_in _) (by first | assumption | omega | (constructor <;> omega) | (simp only [Int.toNat_natCast]; omega) | exact b2_in _) (fun c125 => ?_) (fun c125 => ?_)
    · refine AW.iconst (pc' := 133) dX12_two_132 ?_
      refine AW.iret dX12_two_133 ?_ ?_
      · refine congrArg (fun z : Int => (some (vI z) : Option AV)) ?_
        unfold twF
        rw [if_neg (by omega), if_neg (by omega), if_neg (by omega), if_pos (by omega)]
        first | (rw [b2_t (by omega)]; done) | (rw [b2_f (by omega)]; done)
      · rfl
    · refine AW.iconst (pc' := 129) dX12_two_128 ?_
      refine AW.goto (tgt := 133) dX12_two_129 ?_
      refine AW.iret dX12_two_133 ?_ ?_
      · refine congrArg (fun z : Int => (some (vI z) : Option AV)) ?_
        unfold twF
        rw [if_neg (by omega), if_neg (by omega), if_neg (by omega), if_pos (by omega)]
        first | (rw [b2_t (by omega)]; done) | (rw [b2_f (by omega)]; done)
      · rfl
  by_cases s1_7 : t = 62
  · refine AW.top s1_7 ?_
    refine AW.lookup (tgt := 134) (off := 133) dX12_two_1 (by decide) (by decide) (by decide +kernel) ?_ (by decide)
    refine AW.iload_n (pc' := 135) dX12_two_134 rfl ?_
    refine AW.iload_n (pc' := 136) dX12_two_135 rfl ?_
    refine AW.icmp_le (tgt := 143) (pc' := 139) dX12_two_136 (by first | assumption | omega | (constructor <;> omega) | (simp only [Int.toNat_natCast]; omega) | exact b2_in _) (by first | assumption | omega | (constructor <;> omega) | (simp only [Int.toNat_natCast]; omega) | exact b2_in _) (fun c136 => ?_) (fun c136 => ?_)
    · refine AW.iconst (pc' := 144) dX12_two_143 ?_
      refine AW.iret dX12_two_144 ?_ ?_
      · refine congrArg (fun z : Int => (some (vI z) : Option AV)) ?_
        unfold twF
        rw [if_neg (by omega), if_neg (by omega), if_neg (by omega), if_neg (by omega), if_pos (by omega)]
        first | (rw [b2_t (by omega)]; done) | (rw [b2_f (by omega)]; done)
      · rfl
    · refine AW.iconst (pc' := 140) dX12_two_139 ?_
      refine AW.goto (tgt := 144) dX12_two_140 ?_
      refine AW.iret dX12_two_144 ?_ ?_
      · refine congrArg (fun z : Int => (some (vI z) : Option AV)) ?_
        unfold twF
        rw [if_neg (by omega), if_neg (by omega), if_neg (by omega), if_neg (by omega), if_pos (by omega)]
        first | (rw [b2_t (by omega)]; done) | (rw [b2_f (by omega)]; done)
      · rfl
  by_cases s1_8 : t = 124
  · refine AW.top s1_8 ?_
    refine AW.lookup (tgt := 84) (off := 83) dX12_two_1 (by decide) (by decide) (by decide +kernel) ?_ (by decide)
    refine AW.iload_n (pc' := 85) dX12_two_84 rfl ?_
    refine AW.if_ne (tgt := 92) (pc' := 88) dX12_two_85 (by first | assumption | omega | (constructor <;> omega) | (simp only [Int.toNat_natCast]; omega) | exact b2_in _) (fun c85 => ?_) (fun c85 => ?_)
    · refine AW.iconst (pc' := 93) dX12_two_92 ?_
      refine AW.goto (tgt := 97) dX12_two_93 ?_
      refine AW.iret dX12_two_97 ?_ ?_
      · refine congrArg (fun z : Int => (some (vI z) : Option AV)) ?_
        unfold twF
        rw [if_pos (by omega)]
        first | (rw [b2_t (by omega)]; done) | (rw [b2_f (by omega)]; done)
      · rfl
    · refine AW.iload_n (pc' := 89) dX12_two_88 rfl ?_
      refine AW.if_eq (tgt := 96) (pc' := 92) dX12_two_89 (by first | assumption | omega | (constructor <;> omega) | (simp only [Int.toNat_natCast]; omega) | exact b2_in _) (fun c89 => ?_) (fun c89 => ?_)
      · refine AW.iconst (pc' := 97) dX12_two_96 ?_
        refine AW.iret dX12_two_97 ?_ ?_
        · refine congrArg (fun z : Int => (some (vI z) : Option AV)) ?_
          unfold twF
          rw [if_pos (by omega)]
          first | (rw [b2_t (by omega)]; done) | (rw [b2_f (by omega)]; done)
        · rfl
      · refine AW.iconst (pc' := 93) dX12_two_92 ?_
        refine AW.goto (tgt := 97) dX12_two_93 ?_
        refine AW.iret dX12_two_97 ?_ ?_
        · refine congrArg (fun z : Int => (some (vI z) : Option AV)) ?_
          unfold twF
          rw [if_pos (by omega)]
          first | (rw [b2_t (by omega)]; done) | (rw [b2_f (by omega)]; done)
        · rfl
  refine AW.lookup (tgt := 169) (off := 168) dX12_two_1 (by first | assumption | omega | (constructor <;> omega) | (simp only [Int.toNat_natCast]; omega) | exact b2_in _) (by decide) (by simp [Op.lookupswitch.offset_cons, Ne.symm s1_0, Ne.symm s1_1, Ne.symm s1_2, Ne.symm s1_3, Ne.symm s1_4, Ne.symm s1_5, Ne.symm s1_6, Ne.symm s1_7, Ne.symm s1_8, s1_0, s1_1, s1_2, s1_3, s1_4, s1_5, s1_6, s1_7, s1_8]; try rfl) ?_ (by decide)
  refine AW.iload_n (pc' := 170) dX12_two_169 rfl ?_
  refine AW.if_ne (tgt := 177) (pc' := 173) dX12_two_170 (by first | assumption | omega | (constructor <;> omega) | (simp only [Int.toNat_natCast]; omega) | exact b2_in _) (fun c170 => ?_) (fun c170 => ?_)
  · refine AW.iload_n (pc' := 178) dX12_two_177 rfl ?_
    refine AW.iload_n (pc' := 179) dX12_two_178 rfl ?_
    refine AW.irem (pc' := 180) dX12_two_179 (by first | assumption | omega | (constructor <;> omega) | (simp only [Int.toNat_natCast]; omega) | exact b2_in _) (by first | assumption | omega | (constructor <;> omega) | (simp only [Int.toNat_natCast]; omega) | exact b2_in _) (by first | assumption | omega | (constructor <;> omega) | (simp only [Int.toNat_natCast]; omega) | exact b2_in _) ?_
    first | refine AW.top (b := rmF a b) (by unfold rmF; rw [if_pos (by omega)]) ?_ | refine AW.cong (b := rmF a b) (by unfold rmF; rw [if_neg (by omega)]; exact wr_of _) ?_
    refine AW.iret dX12_two_180 ?_ ?_
    · refine congrArg (fun z : Int => (some (vI z) : Option AV)) ?_
      unfold twF
      rw [if_neg (by omega), if_neg (by omega), if_neg (by omega), if_neg (by omega), if_neg (by omega), if_neg (by omega), if_neg (by omega), if_neg (by omega), if_neg (by omega)]
      try rfl
    · rfl
  · refine AW.iconst (pc' := 174) dX12_two_173 ?_
    refine AW.goto (tgt := 180) dX12_two_174 ?_
    first | refine AW.top (b := rmF a b) (by unfold rmF; rw [if_pos (by omega)]) ?_ | refine AW.cong (b := rmF a b) (by unfold rmF; rw [if_neg (by omega)]; exact wr_of _) ?_
    refine AW.iret dX12_two_180 ?_ ?_
    · refine congrArg (fun z : Int => (some (vI z) : Option AV)) ?_
      unfold twF
      rw [if_neg (by omega), if_neg (by omega), if_neg (by omega), if_neg (by omega), if_neg (by omega), if_neg (by omega), if_neg (by omega), if_neg (by omega), if_neg (by omega)]
      try rfl
    · rfl
set_option maxRecDepth 100000 in
set_option maxHeartbeats 4000000 in
theorem c_X12_named {K : KT} {dep : Nat} {h : Hp} {t a b c d : Int} (hd : 2 ≤ dep) (hI : IMa h) (q0 : 0 ≤ a ∧ a < h 57 13) (q1 : 0 ≤ b ∧ b ≤ 99) (q2 : 0 ≤ c ∧ c < h 57 14) (q4 : inI t) (q5 : inI d) : AM K yX12_named cX12_named 6 (some .int) dep [vR 57, vI t, vI a, vI b, vI c, vI d] h (some (vI (nmF h a.toNat b c.toNat d t))) (h) := by
  refine AM.of (own := RX12) (ls := [some (vR 57), some (vI t), some (vI a), some (vI b), some (vI c), some (vI d)]) rfl (by decide +kernel) (by exact Nat.le_of_ble_eq_true rfl) rfl (fun hO => ?_)
  have g6 := hI.2.2.2.1
  have g7 := hI.2.2.2.2.1
  have g8 := hI.2.1.2.1
  have g1 := hI.1.2.1
  obtain ⟨-, -, f1, f2⟩ := fThen_in hI.1 (r := a.toNat) (by omega) q1.1 q1.2
  refine AW.iload_n (pc' := 1) dX12_named_0 rfl ?_
  by_cases s1_0 : t = 102
  · refine AW.top s1_0 ?_
    refine AW.tableIn (tgt := 96) (off := 95) dX12_named_1 (by decide) (by decide) (by decide) rfl ?_
    refine AW.aload_n (pc' := 97) dX12_named_96 rfl ?_
    refine AW.iload_n (pc' := 98) dX12_named_97 rfl ?_
    refine AW.iload_n (pc' := 99) dX12_named_98 rfl ?_
    refine AW.invV2 (pc' := 102) dX12_named_99 mlX12_235 mX12_formThen ly_57 rfl (c_X12_formThen (dep := dep - 1) (by first | assumption | omega | (constructor <;> omega) | (simp only [Int.toNat_natCast]; omega) | exact b2_in _) (by first | assumption | omega | (constructor <;> omega) | (simp only [Int.toNat_natCast]; omega) | exact b2_in _) (by first | assumption | omega | (constructor <;> omega) | (simp only [Int.toNat_natCast]; omega) | exact b2_in _)) ?_
    refine AW.bipush (pc' := 104) dX12_named_102 (by decide) ?_
    refine AW.idiv (pc' := 105) dX12_named_104 (by first | assumption | omega | (constructor <;> omega) | (simp only [Int.toNat_natCast]; omega) | exact b2_in _) (by first | assumption | omega | (constructor <;> omega) | (simp only [Int.toNat_natCast]; omega) | exact b2_in _) (by first | assumption | omega | (constructor <;> omega) | (simp only [Int.toNat_natCast]; omega) | exact b2_in _) ?_
    refine AW.iret dX12_named_105 ?_ ?_
    · refine congrArg (fun z : Int => (some (vI z) : Option AV)) ?_
      unfold nmF
      (repeat' split) <;> first | rfl | omega
    · rfl
  by_cases s1_1 : t = 103
  · refine AW.top s1_1 ?_
    refine AW.tableIn (tgt := 134) (off := 133) dX12_named_1 (by decide) (by decide) (by decide) rfl ?_
    refine AW.aload_n (pc' := 135) dX12_named_134 rfl ?_
    refine AW.getR (pc' := 138) dX12_named_135 ly_57 fX12_25 rfl ?_
    refine AW.iload (pc' := 140) dX12_named_138 rfl ?_
    first | refine AW.ialdN (pc' := 141) dX12_named_140 ly_63 (by first | assumption | omega | (constructor <;> omega) | (simp only [Int.toNat_natCast]; omega) | exact b2_in _) (by decide) (fun r140 => ?_) | refine AW.iald (pc' := 141) dX12_named_140 ly_63 (by first | assumption | omega | (constructor <;> omega) | (simp only [Int.toNat_natCast]; omega) | exact b2_in _) (by first | assumption | omega | (constructor <;> omega) | (simp only [Int.toNat_natCast]; omega) | exact b2_in _) (by decide) (fun r140 => ?_)
    refine AW.iret dX12_named_141 ?_ ?_
    · refine congrArg (fun z : Int => (some (vI z) : Option AV)) ?_
      unfold nmF
      (repeat' split) <;> first | rfl | omega
    · rfl
  by_cases s1_5 : t = 107
  · refine AW.top s1_5 ?_
    refine AW.tableIn (tgt := 142) (off := 141) dX12_named_1 (by decide) (by decide) (by decide) rfl ?_
    refine AW.aload_n (pc' := 143) dX12_named_142 rfl ?_
    refine AW.getR (pc' := 146) dX12_named_143 ly_57 fX12_22 rfl ?_
    refine AW.iload (pc' := 148) dX12_named_146 rfl ?_
    first | refine AW.ialdN (pc' := 149) dX12_named_148 ly_62 (by first | assumption | omega | (constructor <;> omega) | (simp only [Int.toNat_natCast]; omega) | exact b2_in _) (by decide) (fun r148 => ?_) | refine AW.iald (pc' := 149) dX12_named_148 ly_62 (by first | assumption | omega | (constructor <;> omega) | (simp only [Int.toNat_natCast]; omega) | exact b2_in _) (by first | assumption | omega | (constructor <;> omega) | (simp only [Int.toNat_natCast]; omega) | exact b2_in _) (by decide) (fun r148 => ?_)
    refine AW.iret dX12_named_149 ?_ ?_
    · refine congrArg (fun z : Int => (some (vI z) : Option AV)) ?_
      unfold nmF
      (repeat' split) <;> first | rfl | omega
    · rfl
  by_cases s1_8 : t = 110
  · refine AW.top s1_8 ?_
    refine AW.tableIn (tgt := 129) (off := 128) dX12_named_1 (by decide) (by decide) (by decide) rfl ?_
    refine AW.aload_n (pc' := 130) dX12_named_129 rfl ?_
    refine AW.getI (pc' := 133) dX12_named_130 ly_57 fX12_122 rfl (fun r130 => ?_)
    refine AW.iret dX12_named_133 ?_ ?_
    · refine congrArg (fun z : Int => (some (vI z) : Option AV)) ?_
      unfold nmF
      (repeat' split) <;> first | rfl | omega
    · rfl
  by_cases s1_10 : t = 112
  · refine AW.top s1_10 ?_
    refine AW.tableIn (tgt := 122) (off := 121) dX12_named_1 (by decide) (by decide) (by decide) rfl ?_
    refine AW.aload_n (pc' := 123) dX12_named_122 rfl ?_
    refine AW.iload_n (pc' := 124) dX12_named_123 rfl ?_
    refine AW.iload_n (pc' := 125) dX12_named_124 rfl ?_
    refine AW.invV2 (pc' := 128) dX12_named_125 mlX12_238 mX12_lesserForms ly_57 rfl (c_X12_lesserForms (dep := dep - 1) (by first | assumption | omega | (constructor <;> omega) | (simp only [Int.toNat_natCast]; omega) | exact b2_in _) (by first | assumption | omega | (constructor <;> omega) | (simp only [Int.toNat_natCast]; omega) | exact b2_in _) (by first | assumption | omega | (constructor <;> omega) | (simp only [Int.toNat_natCast]; omega) | exact b2_in _) (by first | assumption | omega | (constructor <;> omega) | (simp only [Int.toNat_natCast]; omega) | exact b2_in _)) ?_
    refine AW.iret dX12_named_128 ?_ ?_
    · refine congrArg (fun z : Int => (some (vI z) : Option AV)) ?_
      unfold nmF
      (repeat' split) <;> first | rfl | omega
    · rfl
  by_cases s1_13 : t = 115
  · refine AW.top s1_13 ?_
    refine AW.tableIn (tgt := 113) (off := 112) dX12_named_1 (by decide) (by decide) (by decide) rfl ?_
    refine AW.aload_n (pc' := 114) dX12_named_113 rfl ?_
    refine AW.getR (pc' := 117) dX12_named_114 ly_57 fX12_19 rfl ?_
    refine AW.iload_n (pc' := 118) dX12_named_117 rfl ?_
    first | refine AW.ialdN (pc' := 119) dX12_named_118 ly_61 (by first | assumption | omega | (constructor <;> omega) | (simp only [Int.toNat_natCast]; omega) | exact b2_in _) (by decide) (fun r118 => ?_) | refine AW.iald (pc' := 119) dX12_named_118 ly_61 (by first | assumption | omega | (constructor <;> omega) | (simp only [Int.toNat_natCast]; omega) | exact b2_in _) (by first | assumption | omega | (constructor <;> omega) | (simp only [Int.toNat_natCast]; omega) | exact b2_in _) (by decide) (fun r118 => ?_)
    refine AW.iret dX12_named_119 ?_ ?_
    · refine congrArg (fun z : Int => (some (vI z) : Option AV)) ?_
      unfold nmF
      (repeat' split) <;> first | rfl | omega
    · rfl
  by_cases s1_14 : t = 116
  · refine AW.top s1_14 ?_
    refine AW.tableIn (tgt := 106) (off := 105) dX12_named_1 (by decide) (by decide) (by decide) rfl ?_
    refine AW.aload_n (pc' := 107) dX12_named_106 rfl ?_
    refine AW.getR (pc' := 110) dX12_named_107 ly_57 fX12_16 rfl ?_
    refine AW.iload_n (pc' := 111) dX12_named_110 rfl ?_
    first | refine AW.ialdN (pc' := 112) dX12_named_111 ly_60 (by first | assumption | omega | (constructor <;> omega) | (simp only [Int.toNat_natCast]; omega) | exact b2_in _) (by decide) (fun r111 => ?_) | refine AW.iald (pc' := 112) dX12_named_111 ly_60 (by first | assumption | omega | (constructor <;> omega) | (simp only [Int.toNat_natCast]; omega) | exact b2_in _) (by first | assumption | omega | (constructor <;> omega) | (simp only [Int.toNat_natCast]; omega) | exact b2_in _) (by decide) (fun r111 => ?_)
    refine AW.iret dX12_named_112 ?_ ?_
    · refine congrArg (fun z : Int => (some (vI z) : Option AV)) ?_
      unfold nmF
      (repeat' split) <;> first | rfl | omega
    · rfl
  by_cases s1_19 : t = 121
  · refine AW.top s1_19 ?_
    refine AW.tableIn (tgt := 120) (off := 119) dX12_named_1 (by decide) (by decide) (by decide) rfl ?_
    refine AW.iload_n (pc' := 121) dX12_named_120 rfl ?_
    refine AW.iret dX12_named_121 ?_ ?_
    · refine congrArg (fun z : Int => (some (vI z) : Option AV)) ?_
      unfold nmF
      (repeat' split) <;> first | rfl | omega
    · rfl
  by_cases s1_2 : t = 104
  · refine AW.top s1_2 ?_
    refine AW.tableIn (tgt := 150) (off := 149) dX12_named_1 (by decide) (by decide) (by decide) rfl ?_
    refine AW.iload (pc' := 152) dX12_named_150 rfl ?_
    refine AW.iret dX12_named_152 ?_ ?_
    · refine congrArg (fun z : Int => (some (vI z) : Option AV)) ?_
      unfold nmF
      (repeat' split) <;> first | rfl | omega
    · rfl
  by_cases s1_3 : t = 105
  · refine AW.top s1_3 ?_
    refine AW.tableIn (tgt := 150) (off := 149) dX12_named_1 (by decide) (by decide) (by decide) rfl ?_
    refine AW.iload (pc' := 152) dX12_named_150 rfl ?_
    refine AW.iret dX12_named_152 ?_ ?_
    · refine congrArg (fun z : Int => (some (vI z) : Option AV)) ?_
      unfold nmF
      (repeat' split) <;> first | rfl | omega
    · rfl
  by_cases s1_4 : t = 106
  · refine AW.top s1_4 ?_
    refine AW.tableIn (tgt := 150) (off := 149) dX12_named_1 (by decide) (by decide) (by decide) rfl ?_
    refine AW.iload (pc' := 152) dX12_named_150 rfl ?_
    refine AW.iret dX12_named_152 ?_ ?_
    · refine congrArg (fun z : Int => (some (vI z) : Option AV)) ?_
      unfold nmF
      (repeat' split) <;> first | rfl | omega
    · rfl
  by_cases s1_6 : t = 108
  · refine AW.top s1_6 ?_
    refine AW.tableIn (tgt := 150) (off := 149) dX12_named_1 (by decide) (by decide) (by decide) rfl ?_
    refine AW.iload (pc' := 152) dX12_named_150 rfl ?_
    refine AW.iret dX12_named_152 ?_ ?_
    · refine congrArg (fun z : Int => (some (vI z) : Option AV)) ?_
      unfold nmF
      (repeat' split) <;> first | rfl | omega
    · rfl
  by_cases s1_7 : t = 109
  · refine AW.top s1_7 ?_
    refine AW.tableIn (tgt := 150) (off := 149) dX12_named_1 (by decide) (by decide) (by decide) rfl ?_
    refine AW.iload (pc' := 152) dX12_named_150 rfl ?_
    refine AW.iret dX12_named_152 ?_ ?_
    · refine congrArg (fun z : Int => (some (vI z) : Option AV)) ?_
      unfold nmF
      (repeat' split) <;> first | rfl | omega
    · rfl
  by_cases s1_9 : t = 111
  · refine AW.top s1_9 ?_
    refine AW.tableIn (tgt := 150) (off := 149) dX12_named_1 (by decide) (by decide) (by decide) rfl ?_
    refine AW.iload (pc' := 152) dX12_named_150 rfl ?_
    refine AW.iret dX12_named_152 ?_ ?_
    · refine congrArg (fun z : Int => (some (vI z) : Option AV)) ?_
      unfold nmF
      (repeat' split) <;> first | rfl | omega
    · rfl
  by_cases s1_11 : t = 113
  · refine AW.top s1_11 ?_
    refine AW.tableIn (tgt := 150) (off := 149) dX12_named_1 (by decide) (by decide) (by decide) rfl ?_
    refine AW.iload (pc' := 152) dX12_named_150 rfl ?_
    refine AW.iret dX12_named_152 ?_ ?_
    · refine congrArg (fun z : Int => (some (vI z) : Option AV)) ?_
      unfold nmF
      (repeat' split) <;> first | rfl | omega
    · rfl
  by_cases s1_12 : t = 114
  · refine AW.top s1_12 ?_
    refine AW.tableIn (tgt := 150) (off := 149) dX12_named_1 (by decide) (by decide) (by decide) rfl ?_
    refine AW.iload (pc' := 152) dX12_named_150 rfl ?_
    refine AW.iret dX12_named_152 ?_ ?_
    · refine congrArg (fun z : Int => (some (vI z) : Option AV)) ?_
      unfold nmF
      (repeat' split) <;> first | rfl | omega
    · rfl
  by_cases s1_15 : t = 117
  · refine AW.top s1_15 ?_
    refine AW.tableIn (tgt := 150) (off := 149) dX12_named_1 (by decide) (by decide) (by decide) rfl ?_
    refine AW.iload (pc' := 152) dX12_named_150 rfl ?_
    refine AW.iret dX12_named_152 ?_ ?_
    · refine congrArg (fun z : Int => (some (vI z) : Option AV)) ?_
      unfold nmF
      (repeat' split) <;> first | rfl | omega
    · rfl
  by_cases s1_16 : t = 118
  · refine AW.top s1_16 ?_
    refine AW.tableIn (tgt := 150) (off := 149) dX12_named_1 (by decide) (by decide) (by decide) rfl ?_
    refine AW.iload (pc' := 152) dX12_named_150 rfl ?_
    refine AW.iret dX12_named_152 ?_ ?_
    · refine congrArg (fun z : Int => (some (vI z) : Option AV)) ?_
      unfold nmF
      (repeat' split) <;> first | rfl | omega
    · rfl
  by_cases s1_17 : t = 119
  · refine AW.top s1_17 ?_
    refine AW.tableIn (tgt := 150) (off := 149) dX12_named_1 (by decide) (by decide) (by decide) rfl ?_
    refine AW.iload (pc' := 152) dX12_named_150 rfl ?_
    refine AW.iret dX12_named_152 ?_ ?_
    · refine congrArg (fun z : Int => (some (vI z) : Option AV)) ?_
      unfold nmF
      (repeat' split) <;> first | rfl | omega
    · rfl
  by_cases s1_18 : t = 120
  · refine AW.top s1_18 ?_
    refine AW.tableIn (tgt := 150) (off := 149) dX12_named_1 (by decide) (by decide) (by decide) rfl ?_
    refine AW.iload (pc' := 152) dX12_named_150 rfl ?_
    refine AW.iret dX12_named_152 ?_ ?_
    · refine congrArg (fun z : Int => (some (vI z) : Option AV)) ?_
      unfold nmF
      (repeat' split) <;> first | rfl | omega
    · rfl
  refine AW.tableOut (tgt := 150) dX12_named_1 (by first | assumption | omega | (constructor <;> omega) | (simp only [Int.toNat_natCast]; omega) | exact b2_in _) (by omega) ?_
  refine AW.iload (pc' := 152) dX12_named_150 rfl ?_
  refine AW.iret dX12_named_152 ?_ ?_
  · refine congrArg (fun z : Int => (some (vI z) : Option AV)) ?_
    unfold nmF
    (repeat' split) <;> first | rfl | omega
  · rfl
