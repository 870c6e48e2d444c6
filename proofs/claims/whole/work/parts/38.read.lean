/-! laws: read, come, says; the class -/
def rdL (T : Nat → Int) (E : Int) (b : PF) : Nat → Int → Int → St → Int × St
  | 0, _, v, s => (v, s)
  | n + 1, f, v, s =>
    if nx T E (if nx T E (b s).2 = 63 then b ((b s).2.1 + 1, (b s).2.2) else b s).2 = 59 then
      rdL T E b n (if f = 0 ∧ (¬ nx T E (b s).2 = 63 ∨ (b s).1 ≠ 0) then 1 else f) (if f = 0 ∧ (¬ nx T E (b s).2 = 63 ∨ (b s).1 ≠ 0) then (if nx T E (b s).2 = 63 then b ((b s).2.1 + 1, (b s).2.2) else b s).1 else v) ((if nx T E (b s).2 = 63 then b ((b s).2.1 + 1, (b s).2.2) else b s).2.1 + 1, (if nx T E (b s).2 = 63 then b ((b s).2.1 + 1, (b s).2.2) else b s).2.2)
    else (if f = 0 ∧ (¬ nx T E (b s).2 = 63 ∨ (b s).1 ≠ 0) then (if nx T E (b s).2 = 63 then b ((b s).2.1 + 1, (b s).2.2) else b s).1 else v, (if nx T E (b s).2 = 63 then b ((b s).2.1 + 1, (b s).2.2) else b s).2)
theorem rdL_step {T : Nat → Int} {E : Int} {b : PF} {n : Nat} {f v : Int} {s : St} (q : Int × St) (f1 v1 : Int) (hq : q = if nx T E (b s).2 = 63 then b ((b s).2.1 + 1, (b s).2.2) else b s) (hf : f1 = if f = 0 ∧ (¬ nx T E (b s).2 = 63 ∨ (b s).1 ≠ 0) then 1 else f) (hv : v1 = if f = 0 ∧ (¬ nx T E (b s).2 = 63 ∨ (b s).1 ≠ 0) then q.1 else v) : rdL T E b (n + 1) f v s = if nx T E q.2 = 59 then rdL T E b n f1 v1 (q.2.1 + 1, q.2.2) else (v1, q.2) := by
  subst hv hf hq
  rfl
def enF (E : Int) (s : St) : St := if s.1 < E then flF s else s
def rdX (T : Nat → Int) (E : Int) (V : Nat → Int) : Int × St := ((rdL T E (eiF T E (sgF T E V 6)) 121 0 0 (0, -1)).1, enF E (rdL T E (eiF T E (sgF T E V 6)) 121 0 0 (0, -1)).2)
abbrev rdG (g : Hp) (b : PF) : Nat → Int → Int → St → Int × St := rdL (TX g) (g 26 7) b
set_option maxRecDepth 100000 in
set_option maxHeartbeats 4000000 in
theorem tl_X5_read {K : KT}  {dep : Nat} {g : Hp} {v : Int} {s : St} (hG : GI g) (hs : SI (g 26 7) s) (hd : 1 ≤ dep) :  AW K (XM K (some (vI v)) (LH g (enF (g 26 7) s))) RX5 cX5_read 10 (some .int) dep 110 [some (vR 26), none, none, some (vI (v)), none, none, none, none, none, none] [] (LH g s) := by
  obtain ⟨s0, s1, s2, s3⟩ := hs
  have hs : SI (g 26 7) s := ⟨s0, s1, s2, s3⟩
  have e1 := hG.2.2
  refine AW.aload_n (pc' := 111) dX5_read_110 rfl ?_
  refine AW.getI (pc' := 114) dX5_read_111 ly_26 fX5_53 rfl (fun r111 => ?_)
  try simp only [LH_at, LH_fault, LH_6, LH_7] at r111 ⊢
  refine AW.aload_n (pc' := 115) dX5_read_114 rfl ?_
  refine AW.getI (pc' := 118) dX5_read_115 ly_26 fX5_50 rfl (fun r115 => ?_)
  try simp only [LH_at, LH_fault, LH_6, LH_7] at r115 ⊢
  refine AW.icmp_ge (tgt := 125) (pc' := 121) dX5_read_118 (by first | assumption | omega | (constructor <;> omega) | (simp only [Int.toNat_natCast]; omega) | exact b2_in _) (by first | assumption | omega | (constructor <;> omega) | (simp only [Int.toNat_natCast]; omega) | exact b2_in _) (fun c118 => ?_) (fun c118 => ?_)
  · refine AW.iload_n (pc' := 126) dX5_read_125 rfl ?_
    refine AW.iret dX5_read_126 ?_ ?_
    · rfl
    · unfold enF
      first | (rw [if_pos (by omega)]; done) | (rw [if_neg (by omega)])
  · refine AW.aload_n (pc' := 122) dX5_read_121 rfl ?_
    refine AW.invV0v (pc' := 125) dX5_read_122 mlX5_64 mX5_fail ly_26 rfl (c_X5_fail (dep := dep - 1) (by first | assumption | omega | (constructor <;> omega) | (simp only [Int.toNat_natCast]; omega) | exact b2_in _) (by first | assumption | omega | (constructor <;> omega) | (simp only [Int.toNat_natCast]; omega) | exact b2_in _)) ?_
    try simp only [Int.toNat_natCast, LH_at, LH_fault, LH_6, LH_7]
    refine AW.iload_n (pc' := 126) dX5_read_125 rfl ?_
    refine AW.iret dX5_read_126 ?_ ?_
    · rfl
    · unfold enF
      first | (rw [if_pos (by omega)]; done) | (rw [if_neg (by omega)])
set_option maxRecDepth 100000 in
set_option maxHeartbeats 4000000 in
theorem lx_X5_read {K : KT}  {dep : Nat} {g : Hp} {v f : Int} {s : St} {k : Nat} (hk : k ≤ 121) (hG : GI g) (hs : SI (g 26 7) s) (hd : 1 ≤ dep) :  AW K (XM K (some (vI v)) (LH g (enF (g 26 7) s))) RX5 cX5_read 10 (some .int) dep 31 [some (vR 26), none, none, some (vI (v)), some (vI (f)), some (vI (0)), some (vI ((k : Int))), none, none, none] [] (LH g s) := by
  refine AW.iload (pc' := 33) dX5_read_31 rfl ?_
  refine AW.bipush (pc' := 35) dX5_read_33 (by decide) ?_
  refine AW.icmp_gt (tgt := 110) (pc' := 38) dX5_read_35 (by first | assumption | omega | (constructor <;> omega) | (simp only [Int.toNat_natCast]; omega) | exact b2_in _) (by first | assumption | omega | (constructor <;> omega) | (simp only [Int.toNat_natCast]; omega) | exact b2_in _) (fun c35 => ?_) (fun c35 => ?_)
  · exact AW.weak (tl_X5_read hG hs hd) (by (repeat' first | exact LSub.e | refine LSub.n ?_ | refine LSub.c ?_ ?_) <;> first | rfl | exact congrArg Sum.inl (by first | rfl | omega | omega) | exact congrArg (fun z : Int => (vL z : AV)) (by first | rfl | omega | omega))
  · refine AW.iload (pc' := 40) dX5_read_38 rfl ?_
    refine AW.if_eq (tgt := 110) (pc' := 43) dX5_read_40 (by first | assumption | omega | (constructor <;> omega) | (simp only [Int.toNat_natCast]; omega) | exact b2_in _) (fun c40 => ?_) (fun c40 => ?_)
    · exact AW.weak (tl_X5_read hG hs hd) (by (repeat' first | exact LSub.e | refine LSub.n ?_ | refine LSub.c ?_ ?_) <;> first | rfl | exact congrArg Sum.inl (by first | rfl | omega | omega) | exact congrArg (fun z : Int => (vL z : AV)) (by first | rfl | omega | omega))
    · omega
set_option maxRecDepth 100000 in
set_option maxHeartbeats 4000000 in
theorem lp_X5_read {K : KT}  {dep : Nat} {g : Hp} {b : PF} {d : Nat} (hG : GI g) (hE : PC K g yX5_either cX5_either 5 d (6 - ((6 : Nat) : Int)) b) (hK : PK (g 26 7) b) (hde : d + 1 ≤ dep) (hd : 2 ≤ dep) : ∀ (n k : Nat) (f v : Int) (s : St), k + n = 121 → 0 ≤ f ∧ f ≤ 1 → inI v ∨ True → SI (g 26 7) s → AW K (XM K (some (vI (rdG g b n f v s).1)) (LH g (enF (g 26 7) (rdG g b n f v s).2))) RX5 cX5_read 10 (some .int) dep 31 [some (vR 26), none, none, some (vI (v)), some (vI (f)), some (vI (1)), some (vI ((k : Int))), none, none, none] [] (LH g s) := by
  intro n
  induction n with
  | zero =>
    intro k f v s hk hf hv hs
    refine AW.iload (pc' := 33) dX5_read_31 rfl ?_
    refine AW.bipush (pc' := 35) dX5_read_33 (by decide) ?_
    refine AW.icmp_gt (tgt := 110) (pc' := 38) dX5_read_35 (by first | assumption | omega | (constructor <;> omega) | (simp only [Int.toNat_natCast]; omega) | exact b2_in _) (by first | assumption | omega | (constructor <;> omega) | (simp only [Int.toNat_natCast]; omega) | exact b2_in _) (fun c35 => ?_) (fun c35 => ?_)
    · exact AW.weak (tl_X5_read hG hs (by omega)) (by (repeat' first | exact LSub.e | refine LSub.n ?_ | refine LSub.c ?_ ?_) <;> first | rfl | exact congrArg Sum.inl (by first | rfl | omega | omega) | exact congrArg (fun z : Int => (vL z : AV)) (by first | rfl | omega | omega))
    · omega
  | succ n ih =>
    intro k f v s hk hf hv hs
    refine AW.iload (pc' := 33) dX5_read_31 rfl ?_
    refine AW.bipush (pc' := 35) dX5_read_33 (by decide) ?_
    refine AW.icmp_gt (tgt := 110) (pc' := 38) dX5_read_35 (by first | assumption | omega | (constructor <;> omega) | (simp only [Int.toNat_natCast]; omega) | exact b2_in _) (by first | assumption | omega | (constructor <;> omega) | (simp only [Int.toNat_natCast]; omega) | exact b2_in _) (fun c35 => ?_) (fun c35 => ?_)
    · omega
    · refine AW.iload (pc' := 40) dX5_read_38 rfl ?_
      refine AW.if_eq (tgt := 110) (pc' := 43) dX5_read_40 (by first | assumption | omega | (constructor <;> omega) | (simp only [Int.toNat_natCast]; omega) | exact b2_in _) (fun c40 => ?_) (fun c40 => ?_)
      · omega
      · refine AW.aload_n (pc' := 44) dX5_read_43 rfl ?_
        refine AW.iconst (pc' := 45) dX5_read_44 ?_
        refine AW.top (b := 6 - ((6 : Nat) : Int)) (by decide) ?_
        refine AW.invV1 (pc' := 48) dX5_read_45 mlX5_56 mX5_either ly_26 rfl (hE s hs) ?_
        try simp only [Int.toNat_natCast, LH_at, LH_fault, LH_6, LH_7]
        have k1 := (hK s hs).1
        have k2 := (hK s hs).2
        refine AW.istore7 (pc' := 50) dX5_read_48 (by decide) rfl ?_
        refine AW.aload_n (pc' := 51) dX5_read_50 rfl ?_
        refine AW.bipush (pc' := 53) dX5_read_51 (by decide) ?_
        refine AW.invV1 (pc' := 56) dX5_read_53 mlX5_60 mX5_passes ly_26 rfl (c_X5_passes (dep := dep - 1) (by omega) hG k2 (by decide) (by decide)) ?_
        try simp only [Int.toNat_natCast, LH_at, LH_fault, LH_6, LH_7]
        refine AW.istore8 (pc' := 58) dX5_read_56 (by decide) rfl ?_
        refine AW.iload (pc' := 60) dX5_read_58 rfl ?_
        refine AW.ifb_eq (tgt := 71) (pc' := 63) dX5_read_60 (fun c60 => ?_) (fun c60 => ?_)
        · have p60 : psF (TX g) (g 26 7) 63 (b s).2 = (b s).2 := by unfold psF; rw [if_neg c60]
          rw [p60]
          have k4 := k2
          obtain ⟨q, hq⟩ : ∃ q, q = b s := ⟨_, rfl⟩
          have hq2 : q = if nx (TX g) (g 26 7) (b s).2 = 63 then b ((b s).2.1 + 1, (b s).2.2) else b s := hq.trans (if_neg c60).symm
          have hq1 : q.1 = (b s).1 ∧ nx (TX g) (g 26 7) q.2 = nx (TX g) (g 26 7) (b s).2 := by rw [hq]; exact ⟨rfl, rfl⟩
          have kq : SI (g 26 7) q.2 := by rw [hq]; exact k4
          refine AW.iload (pc' := 73) dX5_read_71 rfl ?_
          refine AW.istore9 (pc' := 75) dX5_read_73 (by decide) rfl ?_
          rw [← hq]
          have k5 : inI q.1 := by rw [hq]; first | exact k3 | exact k1
          refine AW.iload (pc' := 77) dX5_read_75 rfl ?_
          refine AW.if_ne (tgt := 96) (pc' := 80) dX5_read_77 (by first | assumption | omega | (constructor <;> omega) | (simp only [Int.toNat_natCast]; omega) | exact b2_in _) (fun c77 => ?_) (fun c77 => ?_)
          · have tk : ¬ (f = 0 ∧ (¬ nx (TX g) (g 26 7) (b s).2 = 63 ∨ (b s).1 ≠ 0)) := by omega
            refine AW.aload_n (pc' := 97) dX5_read_96 rfl ?_
            refine AW.bipush (pc' := 99) dX5_read_97 (by decide) ?_
            refine AW.invV1 (pc' := 102) dX5_read_99 mlX5_60 mX5_passes ly_26 rfl (c_X5_passes (dep := dep - 1) (by omega) hG kq (by decide) (by decide)) ?_
            try simp only [Int.toNat_natCast, LH_at, LH_fault, LH_6, LH_7]
            refine AW.istore5 (pc' := 104) dX5_read_102 (by decide) rfl ?_
            refine AW.iinc6 (pc' := 107) dX5_read_104 (by decide) rfl ?_
            refine AW.goto (tgt := 31) dX5_read_107 ?_
            first
            | (have st := rdL_step (T := TX g) (E := g 26 7) (b := b) (n := n) (f := f) (v := v) (s := s) q 1 q.1 hq2 (if_pos tk).symm (if_pos tk).symm
               by_cases c59 : nx (TX g) (g 26 7) q.2 = 59
               · have p59 : psF (TX g) (g 26 7) 59 q.2 = (q.2.1 + 1, q.2.2) := by unfold psF; rw [if_pos c59]
                 rw [if_pos c59] at st
                 simp only [rdG]
                 rw [p59, st]
                 exact AW.weak (ih (k + 1) 1 q.1 (q.2.1 + 1, q.2.2) (by omega) (by omega) (Or.inr trivial) (kq.next c59 (by decide))) (by (repeat' first | exact LSub.e | refine LSub.n ?_ | refine LSub.c ?_ ?_) <;> first | rfl | exact congrArg Sum.inl (by first | rfl | omega | first | exact b2_t c59 | exact (b2_t c59).symm | (push_cast; omega)) | exact congrArg (fun z : Int => (vL z : AV)) (by first | rfl | omega | first | exact b2_t c59 | exact (b2_t c59).symm | (push_cast; omega)))
               · have p59 : psF (TX g) (g 26 7) 59 q.2 = q.2 := by unfold psF; rw [if_neg c59]
                 rw [if_neg c59] at st
                 simp only [rdG]
                 rw [p59, st]
                 exact AW.weak (lx_X5_read (k := k + 1) (f := 1) (v := q.1) (by omega) hG kq (by omega)) (by (repeat' first | exact LSub.e | refine LSub.n ?_ | refine LSub.c ?_ ?_) <;> first | rfl | exact congrArg Sum.inl (by first | rfl | omega | first | exact b2_f c59 | exact (b2_f c59).symm | (push_cast; omega)) | exact congrArg (fun z : Int => (vL z : AV)) (by first | rfl | omega | first | exact b2_f c59 | exact (b2_f c59).symm | (push_cast; omega))))
            | (have st := rdL_step (T := TX g) (E := g 26 7) (b := b) (n := n) (f := f) (v := v) (s := s) q f v hq2 (if_neg tk).symm (if_neg tk).symm
               by_cases c59 : nx (TX g) (g 26 7) q.2 = 59
               · have p59 : psF (TX g) (g 26 7) 59 q.2 = (q.2.1 + 1, q.2.2) := by unfold psF; rw [if_pos c59]
                 rw [if_pos c59] at st
                 simp only [rdG]
                 rw [p59, st]
                 exact AW.weak (ih (k + 1) f v (q.2.1 + 1, q.2.2) (by omega) (by omega) (Or.inr trivial) (kq.next c59 (by decide))) (by (repeat' first | exact LSub.e | refine LSub.n ?_ | refine LSub.c ?_ ?_) <;> first | rfl | exact congrArg Sum.inl (by first | rfl | omega | first | exact b2_t c59 | exact (b2_t c59).symm | (push_cast; omega)) | exact congrArg (fun z : Int => (vL z : AV)) (by first | rfl | omega | first | exact b2_t c59 | exact (b2_t c59).symm | (push_cast; omega)))
               · have p59 : psF (TX g) (g 26 7) 59 q.2 = q.2 := by unfold psF; rw [if_neg c59]
                 rw [if_neg c59] at st
                 simp only [rdG]
                 rw [p59, st]
                 exact AW.weak (lx_X5_read (k := k + 1) (f := f) (v := v) (by omega) hG kq (by omega)) (by (repeat' first | exact LSub.e | refine LSub.n ?_ | refine LSub.c ?_ ?_) <;> first | rfl | exact congrArg Sum.inl (by first | rfl | omega | first | exact b2_f c59 | exact (b2_f c59).symm | (push_cast; omega)) | exact congrArg (fun z : Int => (vL z : AV)) (by first | rfl | omega | first | exact b2_f c59 | exact (b2_f c59).symm | (push_cast; omega))))
          · refine AW.iload (pc' := 82) dX5_read_80 rfl ?_
            refine AW.ifb_eq (tgt := 90) (pc' := 85) dX5_read_82 (fun c82 => ?_) (fun c82 => ?_)
            · have tk : f = 0 ∧ (¬ nx (TX g) (g 26 7) (b s).2 = 63 ∨ (b s).1 ≠ 0) := by omega
              refine AW.iconst (pc' := 91) dX5_read_90 ?_
              refine AW.istore4 (pc' := 93) dX5_read_91 (by decide) rfl ?_
              refine AW.iload (pc' := 95) dX5_read_93 rfl ?_
              refine AW.istore3n (pc' := 96) dX5_read_95 (by decide) rfl ?_
              refine AW.aload_n (pc' := 97) dX5_read_96 rfl ?_
              refine AW.bipush (pc' := 99) dX5_read_97 (by decide) ?_
              refine AW.invV1 (pc' := 102) dX5_read_99 mlX5_60 mX5_passes ly_26 rfl (c_X5_passes (dep := dep - 1) (by omega) hG kq (by decide) (by decide)) ?_
              try simp only [Int.toNat_natCast, LH_at, LH_fault, LH_6, LH_7]
              refine AW.istore5 (pc' := 104) dX5_read_102 (by decide) rfl ?_
              refine AW.iinc6 (pc' := 107) dX5_read_104 (by decide) rfl ?_
              refine AW.goto (tgt := 31) dX5_read_107 ?_
              first
              | (have st := rdL_step (T := TX g) (E := g 26 7) (b := b) (n := n) (f := f) (v := v) (s := s) q 1 q.1 hq2 (if_pos tk).symm (if_pos tk).symm
                 by_cases c59 : nx (TX g) (g 26 7) q.2 = 59
                 · have p59 : psF (TX g) (g 26 7) 59 q.2 = (q.2.1 + 1, q.2.2) := by unfold psF; rw [if_pos c59]
                   rw [if_pos c59] at st
                   simp only [rdG]
                   rw [p59, st]
                   exact AW.weak (ih (k + 1) 1 q.1 (q.2.1 + 1, q.2.2) (by omega) (by omega) (Or.inr trivial) (kq.next c59 (by decide))) (by (repeat' first | exact LSub.e | refine LSub.n ?_ | refine LSub.c ?_ ?_) <;> first | rfl | exact congrArg Sum.inl (by first | rfl | omega | first | exact b2_t c59 | exact (b2_t c59).symm | (push_cast; omega)) | exact congrArg (fun z : Int => (vL z : AV)) (by first | rfl | omega | first | exact b2_t c59 | exact (b2_t c59).symm | (push_cast; omega)))
                 · have p59 : psF (TX g) (g 26 7) 59 q.2 = q.2 := by unfold psF; rw [if_neg c59]
                   rw [if_neg c59] at st
                   simp only [rdG]
                   rw [p59, st]
                   exact AW.weak (lx_X5_read (k := k + 1) (f := 1) (v := q.1) (by omega) hG kq (by omega)) (by (repeat' first | exact LSub.e | refine LSub.n ?_ | refine LSub.c ?_ ?_) <;> first | rfl | exact congrArg Sum.inl (by first | rfl | omega | first | exact b2_f c59 | exact (b2_f c59).symm | (push_cast; omega)) | exact congrArg (fun z : Int => (vL z : AV)) (by first | rfl | omega | first | exact b2_f c59 | exact (b2_f c59).symm | (push_cast; omega))))
              | (have st := rdL_step (T := TX g) (E := g 26 7) (b := b) (n := n) (f := f) (v := v) (s := s) q f v hq2 (if_neg tk).symm (if_neg tk).symm
                 by_cases c59 : nx (TX g) (g 26 7) q.2 = 59
                 · have p59 : psF (TX g) (g 26 7) 59 q.2 = (q.2.1 + 1, q.2.2) := by unfold psF; rw [if_pos c59]
                   rw [if_pos c59] at st
                   simp only [rdG]
                   rw [p59, st]
                   exact AW.weak (ih (k + 1) f v (q.2.1 + 1, q.2.2) (by omega) (by omega) (Or.inr trivial) (kq.next c59 (by decide))) (by (repeat' first | exact LSub.e | refine LSub.n ?_ | refine LSub.c ?_ ?_) <;> first | rfl | exact congrArg Sum.inl (by first | rfl | omega | first | exact b2_t c59 | exact (b2_t c59).symm | (push_cast; omega)) | exact congrArg (fun z : Int => (vL z : AV)) (by first | rfl | omega | first | exact b2_t c59 | exact (b2_t c59).symm | (push_cast; omega)))
                 · have p59 : psF (TX g) (g 26 7) 59 q.2 = q.2 := by unfold psF; rw [if_neg c59]
                   rw [if_neg c59] at st
                   simp only [rdG]
                   rw [p59, st]
                   exact AW.weak (lx_X5_read (k := k + 1) (f := f) (v := v) (by omega) hG kq (by omega)) (by (repeat' first | exact LSub.e | refine LSub.n ?_ | refine LSub.c ?_ ?_) <;> first | rfl | exact congrArg Sum.inl (by first | rfl | omega | first | exact b2_f c59 | exact (b2_f c59).symm | (push_cast; omega)) | exact congrArg (fun z : Int => (vL z : AV)) (by first | rfl | omega | first | exact b2_f c59 | exact (b2_f c59).symm | (push_cast; omega))))
            · refine AW.iload (pc' := 87) dX5_read_85 rfl ?_
              refine AW.if_eq (tgt := 96) (pc' := 90) dX5_read_87 (by first | assumption | omega | (constructor <;> omega) | (simp only [Int.toNat_natCast]; omega) | exact b2_in _) (fun c87 => ?_) (fun c87 => ?_)
              · have tk : ¬ (f = 0 ∧ (¬ nx (TX g) (g 26 7) (b s).2 = 63 ∨ (b s).1 ≠ 0)) := by omega
                refine AW.aload_n (pc' := 97) dX5_read_96 rfl ?_
                refine AW.bipush (pc' := 99) dX5_read_97 (by decide) ?_
                refine AW.invV1 (pc' := 102) dX5_read_99 mlX5_60 mX5_passes ly_26 rfl (c_X5_passes (dep := dep - 1) (by omega) hG kq (by decide) (by decide)) ?_
                try simp only [Int.toNat_natCast, LH_at, LH_fault, LH_6, LH_7]
                refine AW.istore5 (pc' := 104) dX5_read_102 (by decide) rfl ?_
                refine AW.iinc6 (pc' := 107) dX5_read_104 (by decide) rfl ?_
                refine AW.goto (tgt := 31) dX5_read_107 ?_
                first
                | (have st := rdL_step (T := TX g) (E := g 26 7) (b := b) (n := n) (f := f) (v := v) (s := s) q 1 q.1 hq2 (if_pos tk).symm (if_pos tk).symm
                   by_cases c59 : nx (TX g) (g 26 7) q.2 = 59
                   · have p59 : psF (TX g) (g 26 7) 59 q.2 = (q.2.1 + 1, q.2.2) := by unfold psF; rw [if_pos c59]
                     rw [if_pos c59] at st
                     simp only [rdG]
                     rw [p59, st]
                     exact AW.weak (ih (k + 1) 1 q.1 (q.2.1 + 1, q.2.2) (by omega) (by omega) (Or.inr trivial) (kq.next c59 (by decide))) (by (repeat' first | exact LSub.e | refine LSub.n ?_ | refine LSub.c ?_ ?_) <;> first | rfl | exact congrArg Sum.inl (by first | rfl | omega | first | exact b2_t c59 | exact (b2_t c59).symm | (push_cast; omega)) | exact congrArg (fun z : Int => (vL z : AV)) (by first | rfl | omega | first | exact b2_t c59 | exact (b2_t c59).symm | (push_cast; omega)))
                   · have p59 : psF (TX g) (g 26 7) 59 q.2 = q.2 := by unfold psF; rw [if_neg c59]
                     rw [if_neg c59] at st
                     simp only [rdG]
                     rw [p59, st]
                     exact AW.weak (lx_X5_read (k := k + 1) (f := 1) (v := q.1) (by omega) hG kq (by omega)) (by (repeat' first | exact LSub.e | refine LSub.n ?_ | refine LSub.c ?_ ?_) <;> first | rfl | exact congrArg Sum.inl (by first | rfl | omega | first | exact b2_f c59 | exact (b2_f c59).symm | (push_cast; omega)) | exact congrArg (fun z : Int => (vL z : AV)) (by first | rfl | omega | first | exact b2_f c59 | exact (b2_f c59).symm | (push_cast; omega))))
                | (have st := rdL_step (T := TX g) (E := g 26 7) (b := b) (n := n) (f := f) (v := v) (s := s) q f v hq2 (if_neg tk).symm (if_neg tk).symm
                   by_cases c59 : nx (TX g) (g 26 7) q.2 = 59
                   · have p59 : psF (TX g) (g 26 7) 59 q.2 = (q.2.1 + 1, q.2.2) := by unfold psF; rw [if_pos c59]
                     rw [if_pos c59] at st
                     simp only [rdG]
                     rw [p59, st]
                     exact AW.weak (ih (k + 1) f v (q.2.1 + 1, q.2.2) (by omega) (by omega) (Or.inr trivial) (kq.next c59 (by decide))) (by (repeat' first | exact LSub.e | refine LSub.n ?_ | refine LSub.c ?_ ?_) <;> first | rfl | exact congrArg Sum.inl (by first | rfl | omega | first | exact b2_t c59 | exact (b2_t c59).symm | (push_cast; omega)) | exact congrArg (fun z : Int => (vL z : AV)) (by first | rfl | omega | first | exact b2_t c59 | exact (b2_t c59).symm | (push_cast; omega)))
                   · have p59 : psF (TX g) (g 26 7) 59 q.2 = q.2 := by unfold psF; rw [if_neg c59]
                     rw [if_neg c59] at st
                     simp only [rdG]
                     rw [p59, st]
                     exact AW.weak (lx_X5_read (k := k + 1) (f := f) (v := v) (by omega) hG kq (by omega)) (by (repeat' first | exact LSub.e | refine LSub.n ?_ | refine LSub.c ?_ ?_) <;> first | rfl | exact congrArg Sum.inl (by first | rfl | omega | first | exact b2_f c59 | exact (b2_f c59).symm | (push_cast; omega)) | exact congrArg (fun z : Int => (vL z : AV)) (by first | rfl | omega | first | exact b2_f c59 | exact (b2_f c59).symm | (push_cast; omega))))
              · have tk : f = 0 ∧ (¬ nx (TX g) (g 26 7) (b s).2 = 63 ∨ (b s).1 ≠ 0) := by omega
                refine AW.iconst (pc' := 91) dX5_read_90 ?_
                refine AW.istore4 (pc' := 93) dX5_read_91 (by decide) rfl ?_
                refine AW.iload (pc' := 95) dX5_read_93 rfl ?_
                refine AW.istore3n (pc' := 96) dX5_read_95 (by decide) rfl ?_
                refine AW.aload_n (pc' := 97) dX5_read_96 rfl ?_
                refine AW.bipush (pc' := 99) dX5_read_97 (by decide) ?_
                refine AW.invV1 (pc' := 102) dX5_read_99 mlX5_60 mX5_passes ly_26 rfl (c_X5_passes (dep := dep - 1) (by omega) hG kq (by decide) (by decide)) ?_
                try simp only [Int.toNat_natCast, LH_at, LH_fault, LH_6, LH_7]
                refine AW.istore5 (pc' := 104) dX5_read_102 (by decide) rfl ?_
                refine AW.iinc6 (pc' := 107) dX5_read_104 (by decide) rfl ?_
                refine AW.goto (tgt := 31) dX5_read_107 ?_
                first
                | (have st := rdL_step (T := TX g) (E := g 26 7) (b := b) (n := n) (f := f) (v := v) (s := s) q 1 q.1 hq2 (if_pos tk).symm (if_pos tk).symm
                   by_cases c59 : nx (TX g) (g 26 7) q.2 = 59
                   · have p59 : psF (TX g) (g 26 7) 59 q.2 = (q.2.1 + 1, q.2.2) := by unfold psF; rw [if_pos c59]
                     rw [if_pos c59] at st
                     simp only [rdG]
                     rw [p59, st]
                     exact AW.weak (ih (k + 1) 1 q.1 (q.2.1 + 1, q.2.2) (by omega) (by omega) (Or.inr trivial) (kq.next c59 (by decide))) (by (repeat' first | exact LSub.e | refine LSub.n ?_ | refine LSub.c ?_ ?_) <;> first | rfl | exact congrArg Sum.inl (by first | rfl | omega | first | exact b2_t c59 | exact (b2_t c59).symm | (push_cast; omega)) | exact congrArg (fun z : Int => (vL z : AV)) (by first | rfl | omega | first | exact b2_t c59 | exact (b2_t c59).symm | (push_cast; omega)))
                   · have p59 : psF (TX g) (g 26 7) 59 q.2 = q.2 := by unfold psF; rw [if_neg c59]
                     rw [if_neg c59] at st
                     simp only [rdG]
                     rw [p59, st]
                     exact AW.weak (lx_X5_read (k := k + 1) (f := 1) (v := q.1) (by omega) hG kq (by omega)) (by (repeat' first | exact LSub.e | refine LSub.n ?_ | refine LSub.c ?_ ?_) <;> first | rfl | exact congrArg Sum.inl (by first | rfl | omega | first | exact b2_f c59 | exact (b2_f c59).symm | (push_cast; omega)) | exact congrArg (fun z : Int => (vL z : AV)) (by first | rfl | omega | first | exact b2_f c59 | exact (b2_f c59).symm | (push_cast; omega))))
                | (have st := rdL_step (T := TX g) (E := g 26 7) (b := b) (n := n) (f := f) (v := v) (s := s) q f v hq2 (if_neg tk).symm (if_neg tk).symm
                   by_cases c59 : nx (TX g) (g 26 7) q.2 = 59
                   · have p59 : psF (TX g) (g 26 7) 59 q.2 = (q.2.1 + 1, q.2.2) := by unfold psF; rw [if_pos c59]
                     rw [if_pos c59] at st
                     simp only [rdG]
                     rw [p59, st]
                     exact AW.weak (ih (k + 1) f v (q.2.1 + 1, q.2.2) (by omega) (by omega) (Or.inr trivial) (kq.next c59 (by decide))) (by (repeat' first | exact LSub.e | refine LSub.n ?_ | refine LSub.c ?_ ?_) <;> first | rfl | exact congrArg Sum.inl (by first | rfl | omega | first | exact b2_t c59 | exact (b2_t c59).symm | (push_cast; omega)) | exact congrArg (fun z : Int => (vL z : AV)) (by first | rfl | omega | first | exact b2_t c59 | exact (b2_t c59).symm | (push_cast; omega)))
                   · have p59 : psF (TX g) (g 26 7) 59 q.2 = q.2 := by unfold psF; rw [if_neg c59]
                     rw [if_neg c59] at st
                     simp only [rdG]
                     rw [p59, st]
                     exact AW.weak (lx_X5_read (k := k + 1) (f := f) (v := v) (by omega) hG kq (by omega)) (by (repeat' first | exact LSub.e | refine LSub.n ?_ | refine LSub.c ?_ ?_) <;> first | rfl | exact congrArg Sum.inl (by first | rfl | omega | first | exact b2_f c59 | exact (b2_f c59).symm | (push_cast; omega)) | exact congrArg (fun z : Int => (vL z : AV)) (by first | rfl | omega | first | exact b2_f c59 | exact (b2_f c59).symm | (push_cast; omega))))
        · have p60 : psF (TX g) (g 26 7) 63 (b s).2 = ((b s).2.1 + 1, (b s).2.2) := by unfold psF; rw [if_pos c60]
          rw [p60]
          have n60 := k2.next c60 (by decide)
          have k3 := (hK _ n60).1
          have k4 := (hK _ n60).2
          obtain ⟨q, hq⟩ : ∃ q, q = b ((b s).2.1 + 1, (b s).2.2) := ⟨_, rfl⟩
          have hq2 : q = if nx (TX g) (g 26 7) (b s).2 = 63 then b ((b s).2.1 + 1, (b s).2.2) else b s := hq.trans (if_pos c60).symm
          have hq1 : True := trivial
          have kq : SI (g 26 7) q.2 := by rw [hq]; exact k4
          refine AW.aload_n (pc' := 64) dX5_read_63 rfl ?_
          refine AW.iconst (pc' := 65) dX5_read_64 ?_
          refine AW.top (b := 6 - ((6 : Nat) : Int)) (by decide) ?_
          refine AW.invV1 (pc' := 68) dX5_read_65 mlX5_56 mX5_either ly_26 rfl (hE _ n60) ?_
          try simp only [Int.toNat_natCast, LH_at, LH_fault, LH_6, LH_7]
          refine AW.goto (tgt := 73) dX5_read_68 ?_
          refine AW.istore9 (pc' := 75) dX5_read_73 (by decide) rfl ?_
          rw [← hq]
          have k5 : inI q.1 := by rw [hq]; first | exact k3 | exact k1
          refine AW.iload (pc' := 77) dX5_read_75 rfl ?_
          refine AW.if_ne (tgt := 96) (pc' := 80) dX5_read_77 (by first | assumption | omega | (constructor <;> omega) | (simp only [Int.toNat_natCast]; omega) | exact b2_in _) (fun c77 => ?_) (fun c77 => ?_)
          · have tk : ¬ (f = 0 ∧ (¬ nx (TX g) (g 26 7) (b s).2 = 63 ∨ (b s).1 ≠ 0)) := by omega
            refine AW.aload_n (pc' := 97) dX5_read_96 rfl ?_
            refine AW.bipush (pc' := 99) dX5_read_97 (by decide) ?_
            refine AW.invV1 (pc' := 102) dX5_read_99 mlX5_60 mX5_passes ly_26 rfl (c_X5_passes (dep := dep - 1) (by omega) hG kq (by decide) (by decide)) ?_
            try simp only [Int.toNat_natCast, LH_at, LH_fault, LH_6, LH_7]
            refine AW.istore5 (pc' := 104) dX5_read_102 (by decide) rfl ?_
            refine AW.iinc6 (pc' := 107) dX5_read_104 (by decide) rfl ?_
            refine AW.goto (tgt := 31) dX5_read_107 ?_
            first
            | (have st := rdL_step (T := TX g) (E := g 26 7) (b := b) (n := n) (f := f) (v := v) (s := s) q 1 q.1 hq2 (if_pos tk).symm (if_pos tk).symm
               by_cases c59 : nx (TX g) (g 26 7) q.2 = 59
               · have p59 : psF (TX g) (g 26 7) 59 q.2 = (q.2.1 + 1, q.2.2) := by unfold psF; rw [if_pos c59]
                 rw [if_pos c59] at st
                 simp only [rdG]
                 rw [p59, st]
                 exact AW.weak (ih (k + 1) 1 q.1 (q.2.1 + 1, q.2.2) (by omega) (by omega) (Or.inr trivial) (kq.next c59 (by decide))) (by (repeat' first | exact LSub.e | refine LSub.n ?_ | refine LSub.c ?_ ?_) <;> first | rfl | exact congrArg Sum.inl (by first | rfl | omega | first | exact b2_t c59 | exact (b2_t c59).symm | (push_cast; omega)) | exact congrArg (fun z : Int => (vL z : AV)) (by first | rfl | omega | first | exact b2_t c59 | exact (b2_t c59).symm | (push_cast; omega)))
               · have p59 : psF (TX g) (g 26 7) 59 q.2 = q.2 := by unfold psF; rw [if_neg c59]
                 rw [if_neg c59] at st
                 simp only [rdG]
                 rw [p59, st]
                 exact AW.weak (lx_X5_read (k := k + 1) (f := 1) (v := q.1) (by omega) hG kq (by omega)) (by (repeat' first | exact LSub.e | refine LSub.n ?_ | refine LSub.c ?_ ?_) <;> first | rfl | exact congrArg Sum.inl (by first | rfl | omega | first | exact b2_f c59 | exact (b2_f c59).symm | (push_cast; omega)) | exact congrArg (fun z : Int => (vL z : AV)) (by first | rfl | omega | first | exact b2_f c59 | exact (b2_f c59).symm | (push_cast; omega))))
            | (have st := rdL_step (T := TX g) (E := g 26 7) (b := b) (n := n) (f := f) (v := v) (s := s) q f v hq2 (if_neg tk).symm (if_neg tk).symm
               by_cases c59 : nx (TX g) (g 26 7) q.2 = 59
               · have p59 : psF (TX g) (g 26 7) 59 q.2 = (q.2.1 + 1, q.2.2) := by unfold psF; rw [if_pos c59]
                 rw [if_pos c59] at st
                 simp only [rdG]
                 rw [p59, st]
                 exact AW.weak (ih (k + 1) f v (q.2.1 + 1, q.2.2) (by omega) (by omega) (Or.inr trivial) (kq.next c59 (by decide))) (by (repeat' first | exact LSub.e | refine LSub.n ?_ | refine LSub.c ?_ ?_) <;> first | rfl | exact congrArg Sum.inl (by first | rfl | omega | first | exact b2_t c59 | exact (b2_t c59).symm | (push_cast; omega)) | exact congrArg (fun z : Int => (vL z : AV)) (by first | rfl | omega | first | exact b2_t c59 | exact (b2_t c59).symm | (push_cast; omega)))
               · have p59 : psF (TX g) (g 26 7) 59 q.2 = q.2 := by unfold psF; rw [if_neg c59]
                 rw [if_neg c59] at st
                 simp only [rdG]
                 rw [p59, st]
                 exact AW.weak (lx_X5_read (k := k + 1) (f := f) (v := v) (by omega) hG kq (by omega)) (by (repeat' first | exact LSub.e | refine LSub.n ?_ | refine LSub.c ?_ ?_) <;> first | rfl | exact congrArg Sum.inl (by first | rfl | omega | first | exact b2_f c59 | exact (b2_f c59).symm | (push_cast; omega)) | exact congrArg (fun z : Int => (vL z : AV)) (by first | rfl | omega | first | exact b2_f c59 | exact (b2_f c59).symm | (push_cast; omega))))
          · refine AW.iload (pc' := 82) dX5_read_80 rfl ?_
            refine AW.ifb_eq (tgt := 90) (pc' := 85) dX5_read_82 (fun c82 => ?_) (fun c82 => ?_)
            · have tk : f = 0 ∧ (¬ nx (TX g) (g 26 7) (b s).2 = 63 ∨ (b s).1 ≠ 0) := by omega
              refine AW.iconst (pc' := 91) dX5_read_90 ?_
              refine AW.istore4 (pc' := 93) dX5_read_91 (by decide) rfl ?_
              refine AW.iload (pc' := 95) dX5_read_93 rfl ?_
              refine AW.istore3n (pc' := 96) dX5_read_95 (by decide) rfl ?_
              refine AW.aload_n (pc' := 97) dX5_read_96 rfl ?_
              refine AW.bipush (pc' := 99) dX5_read_97 (by decide) ?_
              refine AW.invV1 (pc' := 102) dX5_read_99 mlX5_60 mX5_passes ly_26 rfl (c_X5_passes (dep := dep - 1) (by omega) hG kq (by decide) (by decide)) ?_
              try simp only [Int.toNat_natCast, LH_at, LH_fault, LH_6, LH_7]
              refine AW.istore5 (pc' := 104) dX5_read_102 (by decide) rfl ?_
              refine AW.iinc6 (pc' := 107) dX5_read_104 (by decide) rfl ?_
              refine AW.goto (tgt := 31) dX5_read_107 ?_
              first
              | (have st := rdL_step (T := TX g) (E := g 26 7) (b := b) (n := n) (f := f) (v := v) (s := s) q 1 q.1 hq2 (if_pos tk).symm (if_pos tk).symm
                 by_cases c59 : nx (TX g) (g 26 7) q.2 = 59
                 · have p59 : psF (TX g) (g 26 7) 59 q.2 = (q.2.1 + 1, q.2.2) := by unfold psF; rw [if_pos c59]
                   rw [if_pos c59] at st
                   simp only [rdG]
                   rw [p59, st]
                   exact AW.weak (ih (k + 1) 1 q.1 (q.2.1 + 1, q.2.2) (by omega) (by omega) (Or.inr trivial) (kq.next c59 (by decide))) (by (repeat' first | exact LSub.e | refine LSub.n ?_ | refine LSub.c ?_ ?_) <;> first | rfl | exact congrArg Sum.inl (by first | rfl | omega | first | exact b2_t c59 | exact (b2_t c59).symm | (push_cast; omega)) | exact congrArg (fun z : Int => (vL z : AV)) (by first | rfl | omega | first | exact b2_t c59 | exact (b2_t c59).symm | (push_cast; omega)))
                 · have p59 : psF (TX g) (g 26 7) 59 q.2 = q.2 := by unfold psF; rw [if_neg c59]
                   rw [if_neg c59] at st
                   simp only [rdG]
                   rw [p59, st]
                   exact AW.weak (lx_X5_read (k := k + 1) (f := 1) (v := q.1) (by omega) hG kq (by omega)) (by (repeat' first | exact LSub.e | refine LSub.n ?_ | refine LSub.c ?_ ?_) <;> first | rfl | exact congrArg Sum.inl (by first | rfl | omega | first | exact b2_f c59 | exact (b2_f c59).symm | (push_cast; omega)) | exact congrArg (fun z : Int => (vL z : AV)) (by first | rfl | omega | first | exact b2_f c59 | exact (b2_f c59).symm | (push_cast; omega))))
              | (have st := rdL_step (T := TX g) (E := g 26 7) (b := b) (n := n) (f := f) (v := v) (s := s) q f v hq2 (if_neg tk).symm (if_neg tk).symm
                 by_cases c59 : nx (TX g) (g 26 7) q.2 = 59
                 · have p59 : psF (TX g) (g 26 7) 59 q.2 = (q.2.1 + 1, q.2.2) := by unfold psF; rw [if_pos c59]
                   rw [if_pos c59] at st
                   simp only [rdG]
                   rw [p59, st]
                   exact AW.weak (ih (k + 1) f v (q.2.1 + 1, q.2.2) (by omega) (by omega) (Or.inr trivial) (kq.next c59 (by decide))) (by (repeat' first | exact LSub.e | refine LSub.n ?_ | refine LSub.c ?_ ?_) <;> first | rfl | exact congrArg Sum.inl (by first | rfl | omega | first | exact b2_t c59 | exact (b2_t c59).symm | (push_cast; omega)) | exact congrArg (fun z : Int => (vL z : AV)) (by first | rfl | omega | first | exact b2_t c59 | exact (b2_t c59).symm | (push_cast; omega)))
                 · have p59 : psF (TX g) (g 26 7) 59 q.2 = q.2 := by unfold psF; rw [if_neg c59]
                   rw [if_neg c59] at st
                   simp only [rdG]
                   rw [p59, st]
                   exact AW.weak (lx_X5_read (k := k + 1) (f := f) (v := v) (by omega) hG kq (by omega)) (by (repeat' first | exact LSub.e | refine LSub.n ?_ | refine LSub.c ?_ ?_) <;> first | rfl | exact congrArg Sum.inl (by first | rfl | omega | first | exact b2_f c59 | exact (b2_f c59).symm | (push_cast; omega)) | exact congrArg (fun z : Int => (vL z : AV)) (by first | rfl | omega | first | exact b2_f c59 | exact (b2_f c59).symm | (push_cast; omega))))
            · refine AW.iload (pc' := 87) dX5_read_85 rfl ?_
              refine AW.if_eq (tgt := 96) (pc' := 90) dX5_read_87 (by first | assumption | omega | (constructor <;> omega) | (simp only [Int.toNat_natCast]; omega) | exact b2_in _) (fun c87 => ?_) (fun c87 => ?_)
              · have tk : ¬ (f = 0 ∧ (¬ nx (TX g) (g 26 7) (b s).2 = 63 ∨ (b s).1 ≠ 0)) := by omega
                refine AW.aload_n (pc' := 97) dX5_read_96 rfl ?_
                refine AW.bipush (pc' := 99) dX5_read_97 (by decide) ?_
                refine AW.invV1 (pc' := 102) dX5_read_99 mlX5_60 mX5_passes ly_26 rfl (c_X5_passes (dep := dep - 1) (by omega) hG kq (by decide) (by decide)) ?_
                try simp only [Int.toNat_natCast, LH_at, LH_fault, LH_6, LH_7]
                refine AW.istore5 (pc' := 104) dX5_read_102 (by decide) rfl ?_
                refine AW.iinc6 (pc' := 107) dX5_read_104 (by decide) rfl ?_
                refine AW.goto (tgt := 31) dX5_read_107 ?_
                first
                | (have st := rdL_step (T := TX g) (E := g 26 7) (b := b) (n := n) (f := f) (v := v) (s := s) q 1 q.1 hq2 (if_pos tk).symm (if_pos tk).symm
                   by_cases c59 : nx (TX g) (g 26 7) q.2 = 59
                   · have p59 : psF (TX g) (g 26 7) 59 q.2 = (q.2.1 + 1, q.2.2) := by unfold psF; rw [if_pos c59]
                     rw [if_pos c59] at st
                     simp only [rdG]
                     rw [p59, st]
                     exact AW.weak (ih (k + 1) 1 q.1 (q.2.1 + 1, q.2.2) (by omega) (by omega) (Or.inr trivial) (kq.next c59 (by decide))) (by (repeat' first | exact LSub.e | refine LSub.n ?_ | refine LSub.c ?_ ?_) <;> first | rfl | exact congrArg Sum.inl (by first | rfl | omega | first | exact b2_t c59 | exact (b2_t c59).symm | (push_cast; omega)) | exact congrArg (fun z : Int => (vL z : AV)) (by first | rfl | omega | first | exact b2_t c59 | exact (b2_t c59).symm | (push_cast; omega)))
                   · have p59 : psF (TX g) (g 26 7) 59 q.2 = q.2 := by unfold psF; rw [if_neg c59]
                     rw [if_neg c59] at st
                     simp only [rdG]
                     rw [p59, st]
                     exact AW.weak (lx_X5_read (k := k + 1) (f := 1) (v := q.1) (by omega) hG kq (by omega)) (by (repeat' first | exact LSub.e | refine LSub.n ?_ | refine LSub.c ?_ ?_) <;> first | rfl | exact congrArg Sum.inl (by first | rfl | omega | first | exact b2_f c59 | exact (b2_f c59).symm | (push_cast; omega)) | exact congrArg (fun z : Int => (vL z : AV)) (by first | rfl | omega | first | exact b2_f c59 | exact (b2_f c59).symm | (push_cast; omega))))
                | (have st := rdL_step (T := TX g) (E := g 26 7) (b := b) (n := n) (f := f) (v := v) (s := s) q f v hq2 (if_neg tk).symm (if_neg tk).symm
                   by_cases c59 : nx (TX g) (g 26 7) q.2 = 59
                   · have p59 : psF (TX g) (g 26 7) 59 q.2 = (q.2.1 + 1, q.2.2) := by unfold psF; rw [if_pos c59]
                     rw [if_pos c59] at st
                     simp only [rdG]
                     rw [p59, st]
                     exact AW.weak (ih (k + 1) f v (q.2.1 + 1, q.2.2) (by omega) (by omega) (Or.inr trivial) (kq.next c59 (by decide))) (by (repeat' first | exact LSub.e | refine LSub.n ?_ | refine LSub.c ?_ ?_) <;> first | rfl | exact congrArg Sum.inl (by first | rfl | omega | first | exact b2_t c59 | exact (b2_t c59).symm | (push_cast; omega)) | exact congrArg (fun z : Int => (vL z : AV)) (by first | rfl | omega | first | exact b2_t c59 | exact (b2_t c59).symm | (push_cast; omega)))
                   · have p59 : psF (TX g) (g 26 7) 59 q.2 = q.2 := by unfold psF; rw [if_neg c59]
                     rw [if_neg c59] at st
                     simp only [rdG]
                     rw [p59, st]
                     exact AW.weak (lx_X5_read (k := k + 1) (f := f) (v := v) (by omega) hG kq (by omega)) (by (repeat' first | exact LSub.e | refine LSub.n ?_ | refine LSub.c ?_ ?_) <;> first | rfl | exact congrArg Sum.inl (by first | rfl | omega | first | exact b2_f c59 | exact (b2_f c59).symm | (push_cast; omega)) | exact congrArg (fun z : Int => (vL z : AV)) (by first | rfl | omega | first | exact b2_f c59 | exact (b2_f c59).symm | (push_cast; omega))))
              · have tk : f = 0 ∧ (¬ nx (TX g) (g 26 7) (b s).2 = 63 ∨ (b s).1 ≠ 0) := by omega
                refine AW.iconst (pc' := 91) dX5_read_90 ?_
                refine AW.istore4 (pc' := 93) dX5_read_91 (by decide) rfl ?_
                refine AW.iload (pc' := 95) dX5_read_93 rfl ?_
                refine AW.istore3n (pc' := 96) dX5_read_95 (by decide) rfl ?_
                refine AW.aload_n (pc' := 97) dX5_read_96 rfl ?_
                refine AW.bipush (pc' := 99) dX5_read_97 (by decide) ?_
                refine AW.invV1 (pc' := 102) dX5_read_99 mlX5_60 mX5_passes ly_26 rfl (c_X5_passes (dep := dep - 1) (by omega) hG kq (by decide) (by decide)) ?_
                try simp only [Int.toNat_natCast, LH_at, LH_fault, LH_6, LH_7]
                refine AW.istore5 (pc' := 104) dX5_read_102 (by decide) rfl ?_
                refine AW.iinc6 (pc' := 107) dX5_read_104 (by decide) rfl ?_
                refine AW.goto (tgt := 31) dX5_read_107 ?_
                first
                | (have st := rdL_step (T := TX g) (E := g 26 7) (b := b) (n := n) (f := f) (v := v) (s := s) q 1 q.1 hq2 (if_pos tk).symm (if_pos tk).symm
                   by_cases c59 : nx (TX g) (g 26 7) q.2 = 59
                   · have p59 : psF (TX g) (g 26 7) 59 q.2 = (q.2.1 + 1, q.2.2) := by unfold psF; rw [if_pos c59]
                     rw [if_pos c59] at st
                     simp only [rdG]
                     rw [p59, st]
                     exact AW.weak (ih (k + 1) 1 q.1 (q.2.1 + 1, q.2.2) (by omega) (by omega) (Or.inr trivial) (kq.next c59 (by decide))) (by (repeat' first | exact LSub.e | refine LSub.n ?_ | refine LSub.c ?_ ?_) <;> first | rfl | exact congrArg Sum.inl (by first | rfl | omega | first | exact b2_t c59 | exact (b2_t c59).symm | (push_cast; omega)) | exact congrArg (fun z : Int => (vL z : AV)) (by first | rfl | omega | first | exact b2_t c59 | exact (b2_t c59).symm | (push_cast; omega)))
                   · have p59 : psF (TX g) (g 26 7) 59 q.2 = q.2 := by unfold psF; rw [if_neg c59]
                     rw [if_neg c59] at st
                     simp only [rdG]
                     rw [p59, st]
                     exact AW.weak (lx_X5_read (k := k + 1) (f := 1) (v := q.1) (by omega) hG kq (by omega)) (by (repeat' first | exact LSub.e | refine LSub.n ?_ | refine LSub.c ?_ ?_) <;> first | rfl | exact congrArg Sum.inl (by first | rfl | omega | first | exact b2_f c59 | exact (b2_f c59).symm | (push_cast; omega)) | exact congrArg (fun z : Int => (vL z : AV)) (by first | rfl | omega | first | exact b2_f c59 | exact (b2_f c59).symm | (push_cast; omega))))
                | (have st := rdL_step (T := TX g) (E := g 26 7) (b := b) (n := n) (f := f) (v := v) (s := s) q f v hq2 (if_neg tk).symm (if_neg tk).symm
                   by_cases c59 : nx (TX g) (g 26 7) q.2 = 59
                   · have p59 : psF (TX g) (g 26 7) 59 q.2 = (q.2.1 + 1, q.2.2) := by unfold psF; rw [if_pos c59]
                     rw [if_pos c59] at st
                     simp only [rdG]
                     rw [p59, st]
                     exact AW.weak (ih (k + 1) f v (q.2.1 + 1, q.2.2) (by omega) (by omega) (Or.inr trivial) (kq.next c59 (by decide))) (by (repeat' first | exact LSub.e | refine LSub.n ?_ | refine LSub.c ?_ ?_) <;> first | rfl | exact congrArg Sum.inl (by first | rfl | omega | first | exact b2_t c59 | exact (b2_t c59).symm | (push_cast; omega)) | exact congrArg (fun z : Int => (vL z : AV)) (by first | rfl | omega | first | exact b2_t c59 | exact (b2_t c59).symm | (push_cast; omega)))
                   · have p59 : psF (TX g) (g 26 7) 59 q.2 = q.2 := by unfold psF; rw [if_neg c59]
                     rw [if_neg c59] at st
                     simp only [rdG]
                     rw [p59, st]
                     exact AW.weak (lx_X5_read (k := k + 1) (f := f) (v := v) (by omega) hG kq (by omega)) (by (repeat' first | exact LSub.e | refine LSub.n ?_ | refine LSub.c ?_ ?_) <;> first | rfl | exact congrArg Sum.inl (by first | rfl | omega | first | exact b2_f c59 | exact (b2_f c59).symm | (push_cast; omega)) | exact congrArg (fun z : Int => (vL z : AV)) (by first | rfl | omega | first | exact b2_f c59 | exact (b2_f c59).symm | (push_cast; omega))))
set_option maxRecDepth 100000 in
set_option maxHeartbeats 4000000 in
theorem c_X5_read28 {K : KT} {dep : Nat} {h : Hp} {a : Int} (hd : 50 ≤ dep) (q0 : 0 ≤ a ∧ a ≤ 120) : AM K yX5_read cX5_read 10 (some .int) dep [vR 26, vR 28, vI a] h (some (vI (rdX (h 28) a (h 27)).1)) (LH (hset (hset h 26 6 ((28 : Nat) : Int)) 26 7 a) (rdX (h 28) a (h 27)).2) := by
  refine AM.of (own := RX5) (ls := [some (vR 26), some (vR 28), some (vI a), none, none, none, none, none, none, none]) rfl (by decide +kernel) (by exact Nat.le_of_ble_eq_true rfl) rfl (fun hO => ?_)
  refine AW.aload_n (pc' := 1) dX5_read_0 rfl ?_
  refine AW.aload_n (pc' := 2) dX5_read_1 rfl ?_
  refine AW.putR (pc' := 5) dX5_read_2 ly_26 pX5_27 rfl ?_
  refine AW.aload_n (pc' := 6) dX5_read_5 rfl ?_
  refine AW.iload_n (pc' := 7) dX5_read_6 rfl ?_
  refine AW.putI (pc' := 10) dX5_read_7 ly_26 pX5_50 rfl (by first | assumption | omega | (constructor <;> omega) | (simp only [Int.toNat_natCast]; omega) | exact b2_in _) ?_
  refine AW.aload_n (pc' := 11) dX5_read_10 rfl ?_
  refine AW.iconst (pc' := 12) dX5_read_11 ?_
  refine AW.putI (pc' := 15) dX5_read_12 ly_26 pX5_53 rfl (by first | assumption | omega | (constructor <;> omega) | (simp only [Int.toNat_natCast]; omega) | exact b2_in _) ?_
  refine AW.aload_n (pc' := 16) dX5_read_15 rfl ?_
  refine AW.iconst (pc' := 17) dX5_read_16 ?_
  refine AW.putI (pc' := 20) dX5_read_17 ly_26 pX5_41 rfl (by first | assumption | omega | (constructor <;> omega) | (simp only [Int.toNat_natCast]; omega) | exact b2_in _) ?_
  refine AW.iconst (pc' := 21) dX5_read_20 ?_
  refine AW.istore3n (pc' := 22) dX5_read_21 (by decide) rfl ?_
  refine AW.iconst (pc' := 23) dX5_read_22 ?_
  refine AW.istore4 (pc' := 25) dX5_read_23 (by decide) rfl ?_
  refine AW.iconst (pc' := 26) dX5_read_25 ?_
  refine AW.istore5 (pc' := 28) dX5_read_26 (by decide) rfl ?_
  refine AW.iconst (pc' := 29) dX5_read_28 ?_
  refine AW.istore6 (pc' := 31) dX5_read_29 (by decide) rfl ?_
  obtain ⟨g, gg⟩ : ∃ z, z = hset (hset h 26 6 ((28 : Nat) : Int)) 26 7 a := ⟨_, rfl⟩
  have e0 : hset (hset (hset (hset h 26 6 ((28 : Nat) : Int)) 26 7 a) 26 8 0) 26 9 (-1) = LH g (0, -1) := by rw [gg]; rfl
  rw [e0, ← gg]
  have e6 : (g 26 6).toNat = 28 := by rw [gg]; rfl
  have e7 : g 26 7 = a := by rw [gg]; rfl
  have hG : GI g := ⟨by rw [e6]; exact ly_28, by omega, by omega⟩
  have eT : TX g = h 28 := by
    show g (g 26 6).toNat = _
    rw [e6, gg]
    rfl
  have eV : g 27 = h 27 := by rw [gg]; rfl
  have hV : ∀ j, inI (g 27 j) := fun j => by rw [eV]; exact hO.ints ly_27 j
  have ra := rd_all (K := K) hG hV 6 (Nat.le_refl _) (dep - 1) (by omega)
  have z := lp_X5_read (dep := dep) hG ra.2 (eiF_K (sgF_K hV 6)) (by omega) (by omega) 121 0 0 0 (0, -1) rfl (by omega) (Or.inr trivial) ⟨by decide, by show (0 : Int) ≤ _; omega, by decide, by show (-1 : Int) ≤ _; omega⟩
  simp only [rdG] at z
  rw [eT, eV, e7] at z
  exact AW.weak z (by (repeat' first | exact LSub.e | refine LSub.n ?_ | refine LSub.c ?_ ?_) <;> first | rfl | exact congrArg Sum.inl (by first | rfl | omega | omega) | exact congrArg (fun z : Int => (vL z : AV)) (by first | rfl | omega | omega))
set_option maxRecDepth 100000 in
set_option maxHeartbeats 4000000 in
theorem c_X5_read30 {K : KT} {dep : Nat} {h : Hp} {a : Int} (hd : 50 ≤ dep) (q0 : 0 ≤ a ∧ a ≤ 120) : AM K yX5_read cX5_read 10 (some .int) dep [vR 26, vR 30, vI a] h (some (vI (rdX (h 30) a (h 27)).1)) (LH (hset (hset h 26 6 ((30 : Nat) : Int)) 26 7 a) (rdX (h 30) a (h 27)).2) := by
  refine AM.of (own := RX5) (ls := [some (vR 26), some (vR 30), some (vI a), none, none, none, none, none, none, none]) rfl (by decide +kernel) (by exact Nat.le_of_ble_eq_true rfl) rfl (fun hO => ?_)
  refine AW.aload_n (pc' := 1) dX5_read_0 rfl ?_
  refine AW.aload_n (pc' := 2) dX5_read_1 rfl ?_
  refine AW.putR (pc' := 5) dX5_read_2 ly_26 pX5_27 rfl ?_
  refine AW.aload_n (pc' := 6) dX5_read_5 rfl ?_
  refine AW.iload_n (pc' := 7) dX5_read_6 rfl ?_
  refine AW.putI (pc' := 10) dX5_read_7 ly_26 pX5_50 rfl (by first | assumption | omega | (constructor <;> omega) | (simp only [Int.toNat_natCast]; omega) | exact b2_in _) ?_
  refine AW.aload_n (pc' := 11) dX5_read_10 rfl ?_
  refine AW.iconst (pc' := 12) dX5_read_11 ?_
  refine AW.putI (pc' := 15) dX5_read_12 ly_26 pX5_53 rfl (by first | assumption | omega | (constructor <;> omega) | (simp only [Int.toNat_natCast]; omega) | exact b2_in _) ?_
  refine AW.aload_n (pc' := 16) dX5_read_15 rfl ?_
  refine AW.iconst (pc' := 17) dX5_read_16 ?_
  refine AW.putI (pc' := 20) dX5_read_17 ly_26 pX5_41 rfl (by first | assumption | omega | (constructor <;> omega) | (simp only [Int.toNat_natCast]; omega) | exact b2_in _) ?_
  refine AW.iconst (pc' := 21) dX5_read_20 ?_
  refine AW.istore3n (pc' := 22) dX5_read_21 (by decide) rfl ?_
  refine AW.iconst (pc' := 23) dX5_read_22 ?_
  refine AW.istore4 (pc' := 25) dX5_read_23 (by decide) rfl ?_
  refine AW.iconst (pc' := 26) dX5_read_25 ?_
  refine AW.istore5 (pc' := 28) dX5_read_26 (by decide) rfl ?_
  refine AW.iconst (pc' := 29) dX5_read_28 ?_
  refine AW.istore6 (pc' := 31) dX5_read_29 (by decide) rfl ?_
  obtain ⟨g, gg⟩ : ∃ z, z = hset (hset h 26 6 ((30 : Nat) : Int)) 26 7 a := ⟨_, rfl⟩
  have e0 : hset (hset (hset (hset h 26 6 ((30 : Nat) : Int)) 26 7 a) 26 8 0) 26 9 (-1) = LH g (0, -1) := by rw [gg]; rfl
  rw [e0, ← gg]
  have e6 : (g 26 6).toNat = 30 := by rw [gg]; rfl
  have e7 : g 26 7 = a := by rw [gg]; rfl
  have hG : GI g := ⟨by rw [e6]; exact ly_30, by omega, by omega⟩
  have eT : TX g = h 30 := by
    show g (g 26 6).toNat = _
    rw [e6, gg]
    rfl
  have eV : g 27 = h 27 := by rw [gg]; rfl
  have hV : ∀ j, inI (g 27 j) := fun j => by rw [eV]; exact hO.ints ly_27 j
  have ra := rd_all (K := K) hG hV 6 (Nat.le_refl _) (dep - 1) (by omega)
  have z := lp_X5_read (dep := dep) hG ra.2 (eiF_K (sgF_K hV 6)) (by omega) (by omega) 121 0 0 0 (0, -1) rfl (by omega) (Or.inr trivial) ⟨by decide, by show (0 : Int) ≤ _; omega, by decide, by show (-1 : Int) ≤ _; omega⟩
  simp only [rdG] at z
  rw [eT, eV, e7] at z
  exact AW.weak z (by (repeat' first | exact LSub.e | refine LSub.n ?_ | refine LSub.c ?_ ?_) <;> first | rfl | exact congrArg Sum.inl (by first | rfl | omega | omega) | exact congrArg (fun z : Int => (vL z : AV)) (by first | rfl | omega | omega))
set_option maxRecDepth 100000 in
set_option maxHeartbeats 4000000 in
theorem c_X5_read31 {K : KT} {dep : Nat} {h : Hp} {a : Int} (hd : 50 ≤ dep) (q0 : 0 ≤ a ∧ a ≤ 120) : AM K yX5_read cX5_read 10 (some .int) dep [vR 26, vR 31, vI a] h (some (vI (rdX (h 31) a (h 27)).1)) (LH (hset (hset h 26 6 ((31 : Nat) : Int)) 26 7 a) (rdX (h 31) a (h 27)).2) := by
  refine AM.of (own := RX5) (ls := [some (vR 26), some (vR 31), some (vI a), none, none, none, none, none, none, none]) rfl (by decide +kernel) (by exact Nat.le_of_ble_eq_true rfl) rfl (fun hO => ?_)
  refine AW.aload_n (pc' := 1) dX5_read_0 rfl ?_
  refine AW.aload_n (pc' := 2) dX5_read_1 rfl ?_
  refine AW.putR (pc' := 5) dX5_read_2 ly_26 pX5_27 rfl ?_
  refine AW.aload_n (pc' := 6) dX5_read_5 rfl ?_
  refine AW.iload_n (pc' := 7) dX5_read_6 rfl ?_
  refine AW.putI (pc' := 10) dX5_read_7 ly_26 pX5_50 rfl (by first | assumption | omega | (constructor <;> omega) | (simp only [Int.toNat_natCast]; omega) | exact b2_in _) ?_
  refine AW.aload_n (pc' := 11) dX5_read_10 rfl ?_
  refine AW.iconst (pc' := 12) dX5_read_11 ?_
  refine AW.putI (pc' := 15) dX5_read_12 ly_26 pX5_53 rfl (by first | assumption | omega | (constructor <;> omega) | (simp only [Int.toNat_natCast]; omega) | exact b2_in _) ?_
  refine AW.aload_n (pc' := 16) dX5_read_15 rfl ?_
  refine AW.iconst (pc' := 17) dX5_read_16 ?_
  refine AW.putI (pc' := 20) dX5_read_17 ly_26 pX5_41 rfl (by first | assumption | omega | (constructor <;> omega) | (simp only [Int.toNat_natCast]; omega) | exact b2_in _) ?_
  refine AW.iconst (pc' := 21) dX5_read_20 ?_
  refine AW.istore3n (pc' := 22) dX5_read_21 (by decide) rfl ?_
  refine AW.iconst (pc' := 23) dX5_read_22 ?_
  refine AW.istore4 (pc' := 25) dX5_read_23 (by decide) rfl ?_
  refine AW.iconst (pc' := 26) dX5_read_25 ?_
  refine AW.istore5 (pc' := 28) dX5_read_26 (by decide) rfl ?_
  refine AW.iconst (pc' := 29) dX5_read_28 ?_
  refine AW.istore6 (pc' := 31) dX5_read_29 (by decide) rfl ?_
  obtain ⟨g, gg⟩ : ∃ z, z = hset (hset h 26 6 ((31 : Nat) : Int)) 26 7 a := ⟨_, rfl⟩
  have e0 : hset (hset (hset (hset h 26 6 ((31 : Nat) : Int)) 26 7 a) 26 8 0) 26 9 (-1) = LH g (0, -1) := by rw [gg]; rfl
  rw [e0, ← gg]
  have e6 : (g 26 6).toNat = 31 := by rw [gg]; rfl
  have e7 : g 26 7 = a := by rw [gg]; rfl
  have hG : GI g := ⟨by rw [e6]; exact ly_31, by omega, by omega⟩
  have eT : TX g = h 31 := by
    show g (g 26 6).toNat = _
    rw [e6, gg]
    rfl
  have eV : g 27 = h 27 := by rw [gg]; rfl
  have hV : ∀ j, inI (g 27 j) := fun j => by rw [eV]; exact hO.ints ly_27 j
  have ra := rd_all (K := K) hG hV 6 (Nat.le_refl _) (dep - 1) (by omega)
  have z := lp_X5_read (dep := dep) hG ra.2 (eiF_K (sgF_K hV 6)) (by omega) (by omega) 121 0 0 0 (0, -1) rfl (by omega) (Or.inr trivial) ⟨by decide, by show (0 : Int) ≤ _; omega, by decide, by show (-1 : Int) ≤ _; omega⟩
  simp only [rdG] at z
  rw [eT, eV, e7] at z
  exact AW.weak z (by (repeat' first | exact LSub.e | refine LSub.n ?_ | refine LSub.c ?_ ?_) <;> first | rfl | exact congrArg Sum.inl (by first | rfl | omega | omega) | exact congrArg (fun z : Int => (vL z : AV)) (by first | rfl | omega | omega))
set_option maxRecDepth 100000 in
set_option maxHeartbeats 4000000 in
theorem c_X5_read32 {K : KT} {dep : Nat} {h : Hp} {a : Int} (hd : 50 ≤ dep) (q0 : 0 ≤ a ∧ a ≤ 120) : AM K yX5_read cX5_read 10 (some .int) dep [vR 26, vR 32, vI a] h (some (vI (rdX (h 32) a (h 27)).1)) (LH (hset (hset h 26 6 ((32 : Nat) : Int)) 26 7 a) (rdX (h 32) a (h 27)).2) := by
  refine AM.of (own := RX5) (ls := [some (vR 26), some (vR 32), some (vI a), none, none, none, none, none, none, none]) rfl (by decide +kernel) (by exact Nat.le_of_ble_eq_true rfl) rfl (fun hO => ?_)
  refine AW.aload_n (pc' := 1) dX5_read_0 rfl ?_
  refine AW.aload_n (pc' := 2) dX5_read_1 rfl ?_
  refine AW.putR (pc' := 5) dX5_read_2 ly_26 pX5_27 rfl ?_
  refine AW.aload_n (pc' := 6) dX5_read_5 rfl ?_
  refine AW.iload_n (pc' := 7) dX5_read_6 rfl ?_
  refine AW.putI (pc' := 10) dX5_read_7 ly_26 pX5_50 rfl (by first | assumption | omega | (constructor <;> omega) | (simp only [Int.toNat_natCast]; omega) | exact b2_in _) ?_
  refine AW.aload_n (pc' := 11) dX5_read_10 rfl ?_
  refine AW.iconst (pc' := 12) dX5_read_11 ?_
  refine AW.putI (pc' := 15) dX5_read_12 ly_26 pX5_53 rfl (by first | assumption | omega | (constructor <;> omega) | (simp only [Int.toNat_natCast]; omega) | exact b2_in _) ?_
  refine AW.aload_n (pc' := 16) dX5_read_15 rfl ?_
  refine AW.iconst (pc' := 17) dX5_read_16 ?_
  refine AW.putI (pc' := 20) dX5_read_17 ly_26 pX5_41 rfl (by first | assumption | omega | (constructor <;> omega) | (simp only [Int.toNat_natCast]; omega) | exact b2_in _) ?_
  refine AW.iconst (pc' := 21) dX5_read_20 ?_
  refine AW.istore3n (pc' := 22) dX5_read_21 (by decide) rfl ?_
  refine AW.iconst (pc' := 23) dX5_read_22 ?_
  refine AW.istore4 (pc' := 25) dX5_read_23 (by decide) rfl ?_
  refine AW.iconst (pc' := 26) dX5_read_25 ?_
  refine AW.istore5 (pc' := 28) dX5_read_26 (by decide) rfl ?_
  refine AW.iconst (pc' := 29) dX5_read_28 ?_
  refine AW.istore6 (pc' := 31) dX5_read_29 (by decide) rfl ?_
  obtain ⟨g, gg⟩ : ∃ z, z = hset (hset h 26 6 ((32 : Nat) : Int)) 26 7 a := ⟨_, rfl⟩
  have e0 : hset (hset (hset (hset h 26 6 ((32 : Nat) : Int)) 26 7 a) 26 8 0) 26 9 (-1) = LH g (0, -1) := by rw [gg]; rfl
  rw [e0, ← gg]
  have e6 : (g 26 6).toNat = 32 := by rw [gg]; rfl
  have e7 : g 26 7 = a := by rw [gg]; rfl
  have hG : GI g := ⟨by rw [e6]; exact ly_32, by omega, by omega⟩
  have eT : TX g = h 32 := by
    show g (g 26 6).toNat = _
    rw [e6, gg]
    rfl
  have eV : g 27 = h 27 := by rw [gg]; rfl
  have hV : ∀ j, inI (g 27 j) := fun j => by rw [eV]; exact hO.ints ly_27 j
  have ra := rd_all (K := K) hG hV 6 (Nat.le_refl _) (dep - 1) (by omega)
  have z := lp_X5_read (dep := dep) hG ra.2 (eiF_K (sgF_K hV 6)) (by omega) (by omega) 121 0 0 0 (0, -1) rfl (by omega) (Or.inr trivial) ⟨by decide, by show (0 : Int) ≤ _; omega, by decide, by show (-1 : Int) ≤ _; omega⟩
  simp only [rdG] at z
  rw [eT, eV, e7] at z
  exact AW.weak z (by (repeat' first | exact LSub.e | refine LSub.n ?_ | refine LSub.c ?_ ?_) <;> first | rfl | exact congrArg Sum.inl (by first | rfl | omega | omega) | exact congrArg (fun z : Int => (vL z : AV)) (by first | rfl | omega | omega))
set_option maxRecDepth 100000 in
set_option maxHeartbeats 4000000 in
theorem c_X5_read33 {K : KT} {dep : Nat} {h : Hp} {a : Int} (hd : 50 ≤ dep) (q0 : 0 ≤ a ∧ a ≤ 120) : AM K yX5_read cX5_read 10 (some .int) dep [vR 26, vR 33, vI a] h (some (vI (rdX (h 33) a (h 27)).1)) (LH (hset (hset h 26 6 ((33 : Nat) : Int)) 26 7 a) (rdX (h 33) a (h 27)).2) := by
  refine AM.of (own := RX5) (ls := [some (vR 26), some (vR 33), some (vI a), none, none, none, none, none, none, none]) rfl (by decide +kernel) (by exact Nat.le_of_ble_eq_true rfl) rfl (fun hO => ?_)
  refine AW.aload_n (pc' := 1) dX5_read_0 rfl ?_
  refine AW.aload_n (pc' := 2) dX5_read_1 rfl ?_
  refine AW.putR (pc' := 5) dX5_read_2 ly_26 pX5_27 rfl ?_
  refine AW.aload_n (pc' := 6) dX5_read_5 rfl ?_
  refine AW.iload_n (pc' := 7) dX5_read_6 rfl ?_
  refine AW.putI (pc' := 10) dX5_read_7 ly_26 pX5_50 rfl (by first | assumption | omega | (constructor <;> omega) | (simp only [Int.toNat_natCast]; omega) | exact b2_in _) ?_
  refine AW.aload_n (pc' := 11) dX5_read_10 rfl ?_
  refine AW.iconst (pc' := 12) dX5_read_11 ?_
  refine AW.putI (pc' := 15) dX5_read_12 ly_26 pX5_53 rfl (by first | assumption | omega | (constructor <;> omega) | (simp only [Int.toNat_natCast]; omega) | exact b2_in _) ?_
  refine AW.aload_n (pc' := 16) dX5_read_15 rfl ?_
  refine AW.iconst (pc' := 17) dX5_read_16 ?_
  refine AW.putI (pc' := 20) dX5_read_17 ly_26 pX5_41 rfl (by first | assumption | omega | (constructor <;> omega) | (simp only [Int.toNat_natCast]; omega) | exact b2_in _) ?_
  refine AW.iconst (pc' := 21) dX5_read_20 ?_
  refine AW.istore3n (pc' := 22) dX5_read_21 (by decide) rfl ?_
  refine AW.iconst (pc' := 23) dX5_read_22 ?_
  refine AW.istore4 (pc' := 25) dX5_read_23 (by decide) rfl ?_
  refine AW.iconst (pc' := 26) dX5_read_25 ?_
  refine AW.istore5 (pc' := 28) dX5_read_26 (by decide) rfl ?_
  refine AW.iconst (pc' := 29) dX5_read_28 ?_
  refine AW.istore6 (pc' := 31) dX5_read_29 (by decide) rfl ?_
  obtain ⟨g, gg⟩ : ∃ z, z = hset (hset h 26 6 ((33 : Nat) : Int)) 26 7 a := ⟨_, rfl⟩
  have e0 : hset (hset (hset (hset h 26 6 ((33 : Nat) : Int)) 26 7 a) 26 8 0) 26 9 (-1) = LH g (0, -1) := by rw [gg]; rfl
  rw [e0, ← gg]
  have e6 : (g 26 6).toNat = 33 := by rw [gg]; rfl
  have e7 : g 26 7 = a := by rw [gg]; rfl
  have hG : GI g := ⟨by rw [e6]; exact ly_33, by omega, by omega⟩
  have eT : TX g = h 33 := by
    show g (g 26 6).toNat = _
    rw [e6, gg]
    rfl
  have eV : g 27 = h 27 := by rw [gg]; rfl
  have hV : ∀ j, inI (g 27 j) := fun j => by rw [eV]; exact hO.ints ly_27 j
  have ra := rd_all (K := K) hG hV 6 (Nat.le_refl _) (dep - 1) (by omega)
  have z := lp_X5_read (dep := dep) hG ra.2 (eiF_K (sgF_K hV 6)) (by omega) (by omega) 121 0 0 0 (0, -1) rfl (by omega) (Or.inr trivial) ⟨by decide, by show (0 : Int) ≤ _; omega, by decide, by show (-1 : Int) ≤ _; omega⟩
  simp only [rdG] at z
  rw [eT, eV, e7] at z
  exact AW.weak z (by (repeat' first | exact LSub.e | refine LSub.n ?_ | refine LSub.c ?_ ?_) <;> first | rfl | exact congrArg Sum.inl (by first | rfl | omega | omega) | exact congrArg (fun z : Int => (vL z : AV)) (by first | rfl | omega | omega))
