/-! folds over the runs: counts, bests -/
def fallS (sh th : Nat → Int) (b : Int) (k : Nat) (acc : Int) : Int := if 0 ≤ sh k ∧ b < th (sh k).toNat then acc + 1 else acc
theorem fallS_in (sh th : Nat → Int) (b : Int) (k : Nat) (acc : Int) : acc ≤ fallS sh th b k acc ∧ fallS sh th b k acc ≤ acc + 1 := by unfold fallS; split <;> omega
def fallF (n : Int) (sh th : Nat → Int) (b : Int) : Int := lp (fallS sh th b) n.toNat 0 0
set_option maxRecDepth 100000 in
set_option maxHeartbeats 4000000 in
theorem lp_X7_fallenBy {K : KT} {X : XT} {dep : Nat} {h : Hp} {b : Int} (hI : IXa h) (hb : inI b) (hd : 3 ≤ dep) : ∀ (n k : Nat) (acc : Int), (k : Int) + n = h 12 10 → 0 ≤ acc → acc ≤ k → AW K X RX7 cX7_fallenBy 4 (some .int) dep 30 [some (vR 12), some (vI (b)), some (vI ((lp (fallS (h 17) (h 7) b) n k acc))), none] [] h → AW K X RX7 cX7_fallenBy 4 (some .int) dep 4 [some (vR 12), some (vI (b)), some (vI (acc)), some (vI ((k : Int)))] [] h := by
  have g6 := hI.2.2.2.1
  have g7 := hI.2.2.2.2.1
  have g8 := hI.2.1.2.1
  intro n
  induction n with
  | zero =>
    intro k acc hk i0 i1 kk
    refine AW.iload_n (pc' := 5) dX7_fallenBy_4 rfl ?_
    refine AW.aload_n (pc' := 6) dX7_fallenBy_5 rfl ?_
    refine AW.getI (pc' := 9) dX7_fallenBy_6 ly_12 fX7_44 rfl (fun r6 => ?_)
    refine AW.icmp_ge (tgt := 30) (pc' := 12) dX7_fallenBy_9 (by first | assumption | omega | (constructor <;> omega) | (simp only [Int.toNat_natCast]; omega) | exact b2_in _) (by first | assumption | omega | (constructor <;> omega) | (simp only [Int.toNat_natCast]; omega) | exact b2_in _) (fun c9 => ?_) (fun c9 => ?_)
    · exact AW.weak kk (by (repeat' first | exact LSub.e | refine LSub.n ?_ | refine LSub.c ?_ ?_) <;> first | rfl | exact congrArg Sum.inl (by first | rfl | omega | omega))
    · omega
  | succ n ih =>
    intro k acc hk i0 i1 kk
    have hkr : ((k : Nat) : Int) < h 12 10 := by omega
    have g5 := hI.2.2.2.2.2 k hkr
    have g9 := fallS_in (h 17) (h 7) b k acc
    refine AW.iload_n (pc' := 5) dX7_fallenBy_4 rfl ?_
    refine AW.aload_n (pc' := 6) dX7_fallenBy_5 rfl ?_
    refine AW.getI (pc' := 9) dX7_fallenBy_6 ly_12 fX7_44 rfl (fun r6 => ?_)
    refine AW.icmp_ge (tgt := 30) (pc' := 12) dX7_fallenBy_9 (by first | assumption | omega | (constructor <;> omega) | (simp only [Int.toNat_natCast]; omega) | exact b2_in _) (by first | assumption | omega | (constructor <;> omega) | (simp only [Int.toNat_natCast]; omega) | exact b2_in _) (fun c9 => ?_) (fun c9 => ?_)
    · omega
    · refine AW.aload_n (pc' := 13) dX7_fallenBy_12 rfl ?_
      refine AW.iload_n (pc' := 14) dX7_fallenBy_13 rfl ?_
      refine AW.iload_n (pc' := 15) dX7_fallenBy_14 rfl ?_
      refine AW.invV2 (pc' := 18) dX7_fallenBy_15 mlX7_82 mX7_falls ly_12 rfl (c_X7_falls (dep := dep - 1) (by first | assumption | omega | (constructor <;> omega) | (simp only [Int.toNat_natCast]; omega) | exact b2_in _) (by first | assumption | omega | (constructor <;> omega) | (simp only [Int.toNat_natCast]; omega) | exact b2_in _) (by first | assumption | omega | (constructor <;> omega) | (simp only [Int.toNat_natCast]; omega) | exact b2_in _) (by first | assumption | omega | (constructor <;> omega) | (simp only [Int.toNat_natCast]; omega) | exact b2_in _)) ?_
      try simp only [Int.toNat_natCast]
      refine AW.ifb_eq (tgt := 24) (pc' := 21) dX7_fallenBy_18 (fun c18 => ?_) (fun c18 => ?_)
      · refine AW.iinc3 (pc' := 27) dX7_fallenBy_24 (by decide) rfl ?_
        refine AW.goto (tgt := 4) dX7_fallenBy_27 ?_
        exact AW.weak (ih (k + 1) ((fallS (h 17) (h 7) b) k acc) (by omega) (by first | omega | (omega)) (by first | omega | (omega)) kk) (by (repeat' first | exact LSub.e | refine LSub.n ?_ | refine LSub.c ?_ ?_) <;> first | rfl | exact congrArg Sum.inl (by first | rfl | omega | (unfold fallS; (repeat' split) <;> omega)))
      · refine AW.iinc2 (pc' := 24) dX7_fallenBy_21 (by decide) rfl ?_
        refine AW.iinc3 (pc' := 27) dX7_fallenBy_24 (by decide) rfl ?_
        refine AW.goto (tgt := 4) dX7_fallenBy_27 ?_
        exact AW.weak (ih (k + 1) ((fallS (h 17) (h 7) b) k acc) (by omega) (by first | omega | (omega)) (by first | omega | (omega)) kk) (by (repeat' first | exact LSub.e | refine LSub.n ?_ | refine LSub.c ?_ ?_) <;> first | rfl | exact congrArg Sum.inl (by first | rfl | omega | (unfold fallS; (repeat' split) <;> omega)))
set_option maxRecDepth 100000 in
set_option maxHeartbeats 4000000 in
theorem c_X7_fallenBy {K : KT} {dep : Nat} {h : Hp} {b : Int} (hd : 3 ≤ dep) (hI : IXa h) (q1 : inI b) : AM K yX7_fallenBy cX7_fallenBy 4 (some .int) dep [vR 12, vI b] h (some (vI (fallF (h 12 10) (h 17) (h 7) b))) (h) := by
  refine AM.of (own := RX7) (ls := [some (vR 12), some (vI b), none, none]) rfl (by decide +kernel) (by exact Nat.le_of_ble_eq_true rfl) rfl (fun hO => ?_)
  have g6 := hI.2.2.2.1
  have g7 := hI.2.2.2.2.1
  have g8 := hI.2.1.2.1
  refine AW.iconst (pc' := 1) dX7_fallenBy_0 ?_
  refine AW.istore2n (pc' := 2) dX7_fallenBy_1 (by decide) rfl ?_
  refine AW.iconst (pc' := 3) dX7_fallenBy_2 ?_
  refine AW.istore3n (pc' := 4) dX7_fallenBy_3 (by decide) rfl ?_
  refine AW.weak (lp_X7_fallenBy hI (b := b) (by first | assumption | omega | (constructor <;> omega) | (simp only [Int.toNat_natCast]; omega) | exact b2_in _) hd (h 12 10).toNat 0 0 (by omega) (by omega) (by omega) ?_) (by (repeat' first | exact LSub.e | refine LSub.n ?_ | refine LSub.c ?_ ?_) <;> first | rfl | exact congrArg Sum.inl (by first | rfl | omega | omega))
  refine AW.iload_n (pc' := 31) dX7_fallenBy_30 rfl ?_
  refine AW.iret dX7_fallenBy_31 ?_ ?_
  all_goals first | rfl | exact congrArg (fun z : Int => (some (vI z) : Option AV)) (b2_t (by omega)) | exact congrArg (fun z : Int => (some (vI z) : Option AV)) (b2_f (by omega)) | ((repeat' split) <;> first | rfl | omega)
set_option maxRecDepth 100000 in
set_option maxHeartbeats 4000000 in
theorem lp_X12_rule {K : KT} {X : XT} {dep : Nat} {h : Hp} {b : Int} (hI : IMa h) (hb : inI b) (hd : 1 ≤ dep) : ∀ (n k : Nat) (acc : Int), (k : Int) + n = h 57 16 → 0 ≤ acc → acc ≤ k → AW K X RX12 cX12_rule 4 (some .int) dep 47 [some (vR 57), some (vI (b)), some (vI ((lp (fallS (h 70) (h 62) b) n k acc))), none] [] h → AW K X RX12 cX12_rule 4 (some .int) dep 16 [some (vR 57), some (vI (b)), some (vI (acc)), some (vI ((k : Int)))] [] h := by
  have g6 := hI.2.2.2.1
  have g7 := hI.2.2.2.2.1
  have g8 := hI.2.1.2.1
  intro n
  induction n with
  | zero =>
    intro k acc hk i0 i1 kk
    refine AW.iload_n (pc' := 17) dX12_rule_16 rfl ?_
    refine AW.aload_n (pc' := 18) dX12_rule_17 rfl ?_
    refine AW.getI (pc' := 21) dX12_rule_18 ly_57 fX12_128 rfl (fun r18 => ?_)
    refine AW.icmp_ge (tgt := 47) (pc' := 24) dX12_rule_21 (by first | assumption | omega | (constructor <;> omega) | (simp only [Int.toNat_natCast]; omega) | exact b2_in _) (by first | assumption | omega | (constructor <;> omega) | (simp only [Int.toNat_natCast]; omega) | exact b2_in _) (fun c21 => ?_) (fun c21 => ?_)
    · exact AW.weak kk (by (repeat' first | exact LSub.e | refine LSub.n ?_ | refine LSub.c ?_ ?_) <;> first | rfl | exact congrArg Sum.inl (by first | rfl | omega | omega))
    · omega
  | succ n ih =>
    intro k acc hk i0 i1 kk
    have hkr : ((k : Nat) : Int) < h 57 16 := by omega
    have g5 := hI.2.2.2.2.2 k hkr
    have g9 := fallS_in (h 70) (h 62) b k acc
    refine AW.iload_n (pc' := 17) dX12_rule_16 rfl ?_
    refine AW.aload_n (pc' := 18) dX12_rule_17 rfl ?_
    refine AW.getI (pc' := 21) dX12_rule_18 ly_57 fX12_128 rfl (fun r18 => ?_)
    refine AW.icmp_ge (tgt := 47) (pc' := 24) dX12_rule_21 (by first | assumption | omega | (constructor <;> omega) | (simp only [Int.toNat_natCast]; omega) | exact b2_in _) (by first | assumption | omega | (constructor <;> omega) | (simp only [Int.toNat_natCast]; omega) | exact b2_in _) (fun c21 => ?_) (fun c21 => ?_)
    · omega
    · refine AW.iload_n (pc' := 25) dX12_rule_24 rfl ?_
      refine AW.aload_n (pc' := 26) dX12_rule_25 rfl ?_
      refine AW.iload_n (pc' := 27) dX12_rule_26 rfl ?_
      refine AW.iload_n (pc' := 28) dX12_rule_27 rfl ?_
      refine AW.invV2 (pc' := 31) dX12_rule_28 mlX12_328 mX12_falls ly_57 rfl (c_X12_falls (dep := dep - 1) (by first | assumption | omega | (constructor <;> omega) | (simp only [Int.toNat_natCast]; omega) | exact b2_in _) (by first | assumption | omega | (constructor <;> omega) | (simp only [Int.toNat_natCast]; omega) | exact b2_in _) (by first | assumption | omega | (constructor <;> omega) | (simp only [Int.toNat_natCast]; omega) | exact b2_in _)) ?_
      try simp only [Int.toNat_natCast]
      refine AW.ifb_eq (tgt := 38) (pc' := 34) dX12_rule_31 (fun c31 => ?_) (fun c31 => ?_)
      · refine AW.iconst (pc' := 39) dX12_rule_38 ?_
        refine AW.iadd (pc' := 40) dX12_rule_39 ?_
        refine AW.istore2n (pc' := 41) dX12_rule_40 (by decide) rfl ?_
        refine AW.iinc3 (pc' := 44) dX12_rule_41 (by decide) rfl ?_
        refine AW.goto (tgt := 16) dX12_rule_44 ?_
        exact AW.weak (ih (k + 1) ((fallS (h 70) (h 62) b) k acc) (by omega) (by first | omega | (omega)) (by first | omega | (omega)) kk) (by (repeat' first | exact LSub.e | refine LSub.n ?_ | refine LSub.c ?_ ?_) <;> first | rfl | exact congrArg Sum.inl (by first | rfl | omega | (unfold fallS; (repeat' split) <;> omega)))
      · refine AW.iconst (pc' := 35) dX12_rule_34 ?_
        refine AW.goto (tgt := 39) dX12_rule_35 ?_
        refine AW.iadd (pc' := 40) dX12_rule_39 ?_
        refine AW.istore2n (pc' := 41) dX12_rule_40 (by decide) rfl ?_
        refine AW.iinc3 (pc' := 44) dX12_rule_41 (by decide) rfl ?_
        refine AW.goto (tgt := 16) dX12_rule_44 ?_
        exact AW.weak (ih (k + 1) ((fallS (h 70) (h 62) b) k acc) (by omega) (by first | omega | (omega)) (by first | omega | (omega)) kk) (by (repeat' first | exact LSub.e | refine LSub.n ?_ | refine LSub.c ?_ ?_) <;> first | rfl | exact congrArg Sum.inl (by first | rfl | omega | (unfold fallS; (repeat' split) <;> omega)))
set_option maxRecDepth 100000 in
set_option maxHeartbeats 4000000 in
theorem c_X12_rule {K : KT} {dep : Nat} {h : Hp} {b : Int} (hd : 1 ≤ dep) (hI : IMa h) (q1 : inI b) : AM K yX12_rule cX12_rule 4 (some .int) dep [vR 57, vI b] h (some (vI (if 0 ≤ b ∧ b ≤ 99 then fallF (h 57 16) (h 70) (h 62) b else -1))) (h) := by
  refine AM.of (own := RX12) (ls := [some (vR 57), some (vI b), none, none]) rfl (by decide +kernel) (by exact Nat.le_of_ble_eq_true rfl) rfl (fun hO => ?_)
  have g6 := hI.2.2.2.1
  have g7 := hI.2.2.2.2.1
  have g8 := hI.2.1.2.1
  refine AW.iload_n (pc' := 1) dX12_rule_0 rfl ?_
  refine AW.iconst (pc' := 2) dX12_rule_1 ?_
  refine AW.bipush (pc' := 4) dX12_rule_2 (by decide) ?_
  refine AW.invS3 (pc' := 7) dX12_rule_4 mlX12_117 mX12_isIn (c_X12_isIn (dep := dep - 1) (by first | assumption | omega | (constructor <;> omega) | (simp only [Int.toNat_natCast]; omega) | exact b2_in _) (by first | assumption | omega | (constructor <;> omega) | (simp only [Int.toNat_natCast]; omega) | exact b2_in _) (by first | assumption | omega | (constructor <;> omega) | (simp only [Int.toNat_natCast]; omega) | exact b2_in _)) ?_
  refine AW.ifb_ne (tgt := 12) (pc' := 10) dX12_rule_7 (fun c7 => ?_) (fun c7 => ?_)
  · refine AW.iconst (pc' := 13) dX12_rule_12 ?_
    refine AW.istore2n (pc' := 14) dX12_rule_13 (by decide) rfl ?_
    refine AW.iconst (pc' := 15) dX12_rule_14 ?_
    refine AW.istore3n (pc' := 16) dX12_rule_15 (by decide) rfl ?_
    refine AW.weak (lp_X12_rule hI (b := b) (by first | assumption | omega | (constructor <;> omega) | (simp only [Int.toNat_natCast]; omega) | exact b2_in _) hd (h 57 16).toNat 0 0 (by omega) (by omega) (by omega) ?_) (by (repeat' first | exact LSub.e | refine LSub.n ?_ | refine LSub.c ?_ ?_) <;> first | rfl | exact congrArg Sum.inl (by first | rfl | omega | omega))
    refine AW.iload_n (pc' := 48) dX12_rule_47 rfl ?_
    refine AW.iret dX12_rule_48 ?_ ?_
    all_goals first | rfl | exact congrArg (fun z : Int => (some (vI z) : Option AV)) (b2_t (by omega)) | exact congrArg (fun z : Int => (some (vI z) : Option AV)) (b2_f (by omega)) | ((repeat' split) <;> first | rfl | omega)
  · refine AW.iconst (pc' := 11) dX12_rule_10 ?_
    refine AW.iret dX12_rule_11 ?_ ?_
    all_goals first | rfl | exact congrArg (fun z : Int => (some (vI z) : Option AV)) (b2_t (by omega)) | exact congrArg (fun z : Int => (some (vI z) : Option AV)) (b2_f (by omega)) | ((repeat' split) <;> first | rfl | omega)
set_option maxRecDepth 100000 in
set_option maxHeartbeats 4000000 in
theorem c_X11_rule {K : KT} {dep : Nat} {h : Hp} {b : Int} (hd : 4 ≤ dep) (hI : IXa h) (q1 : inI b) : AM K yX11_rule cX11_rule 2 (some .int) dep [vR 0, vI b] h (some (vI (if 0 ≤ b ∧ b ≤ 99 then fallF (h 12 10) (h 17) (h 7) b else -1))) (h) := by
  refine AM.of (own := RX11) (ls := [some (vR 0), some (vI b)]) rfl (by decide +kernel) (by exact Nat.le_of_ble_eq_true rfl) rfl (fun hO => ?_)
  refine AW.iload_n (pc' := 1) dX11_rule_0 rfl ?_
  refine AW.iconst (pc' := 2) dX11_rule_1 ?_
  refine AW.bipush (pc' := 4) dX11_rule_2 (by decide) ?_
  refine AW.invS3 (pc' := 7) dX11_rule_4 mlX11_89 mX11_within (c_X11_within (dep := dep - 1) (by first | assumption | omega | (constructor <;> omega) | (simp only [Int.toNat_natCast]; omega) | exact b2_in _) (by first | assumption | omega | (constructor <;> omega) | (simp only [Int.toNat_natCast]; omega) | exact b2_in _) (by first | assumption | omega | (constructor <;> omega) | (simp only [Int.toNat_natCast]; omega) | exact b2_in _)) ?_
  refine AW.ifb_eq (tgt := 21) (pc' := 10) dX11_rule_7 (fun c7 => ?_) (fun c7 => ?_)
  · refine AW.iconst (pc' := 22) dX11_rule_21 ?_
    refine AW.iret dX11_rule_22 ?_ ?_
    all_goals first | rfl | exact congrArg (fun z : Int => (some (vI z) : Option AV)) (b2_t (by omega)) | exact congrArg (fun z : Int => (some (vI z) : Option AV)) (b2_f (by omega)) | ((repeat' split) <;> first | rfl | omega)
  · refine AW.aload_n (pc' := 11) dX11_rule_10 rfl ?_
    refine AW.getR (pc' := 14) dX11_rule_11 ly_0 fX11_35 rfl ?_
    refine AW.iload_n (pc' := 15) dX11_rule_14 rfl ?_
    refine AW.invV1 (pc' := 18) dX11_rule_15 mlX11_280 mX7_fallenBy ly_12 rfl (c_X7_fallenBy (dep := dep - 1) (by first | assumption | omega | (constructor <;> omega) | (simp only [Int.toNat_natCast]; omega) | exact b2_in _) (by first | assumption | omega | (constructor <;> omega) | (simp only [Int.toNat_natCast]; omega) | exact b2_in _) (by first | assumption | omega | (constructor <;> omega) | (simp only [Int.toNat_natCast]; omega) | exact b2_in _)) ?_
    refine AW.goto (tgt := 22) dX11_rule_18 ?_
    refine AW.iret dX11_rule_22 ?_ ?_
    all_goals first | rfl | exact congrArg (fun z : Int => (some (vI z) : Option AV)) (b2_t (by omega)) | exact congrArg (fun z : Int => (some (vI z) : Option AV)) (b2_f (by omega)) | ((repeat' split) <;> first | rfl | omega)
set_option maxRecDepth 100000 in
set_option maxHeartbeats 4000000 in
theorem lp_X12_lesserForms {K : KT} {X : XT} {dep : Nat} {h : Hp} {a b : Int} (hI : IMa h) (qa : 0 ≤ a ∧ a < h 57 13) (qb : 0 ≤ b ∧ b ≤ 99) (hd : 1 ≤ dep) : ∀ (n k : Nat) (acc : Int), (k : Int) + n = h 57 13 → 0 ≤ acc → acc ≤ k → AW K X RX12 cX12_lesserForms 5 (some .int) dep 44 [some (vR 57), some (vI (a)), some (vI (b)), some (vI ((lp (lessS (h 58) (h 59) b (fThen (h 58) (h 59) a.toNat b)) n k acc))), none] [] h → AW K X RX12 cX12_lesserForms 5 (some .int) dep 5 [some (vR 57), some (vI (a)), some (vI (b)), some (vI (acc)), some (vI ((k : Int)))] [] h := by
  have g6 := hI.1.1
  have g7 := hI.1.2.1
  obtain ⟨e1, e2, e3, e4⟩ := fThen_in hI.1 (r := a.toNat) (by omega) qb.1 qb.2
  intro n
  induction n with
  | zero =>
    intro k acc hk i0 i1 kk
    refine AW.iload (pc' := 7) dX12_lesserForms_5 rfl ?_
    refine AW.aload_n (pc' := 8) dX12_lesserForms_7 rfl ?_
    refine AW.getI (pc' := 11) dX12_lesserForms_8 ly_57 fX12_122 rfl (fun r8 => ?_)
    refine AW.icmp_ge (tgt := 44) (pc' := 14) dX12_lesserForms_11 (by first | assumption | omega | (constructor <;> omega) | (simp only [Int.toNat_natCast]; omega) | exact b2_in _) (by first | assumption | omega | (constructor <;> omega) | (simp only [Int.toNat_natCast]; omega) | exact b2_in _) (fun c11 => ?_) (fun c11 => ?_)
    · exact AW.weak kk (by (repeat' first | exact LSub.e | refine LSub.n ?_ | refine LSub.c ?_ ?_) <;> first | rfl | exact congrArg Sum.inl (by first | rfl | omega | omega))
    · omega
  | succ n ih =>
    intro k acc hk i0 i1 kk
    have hkr : ((k : Nat) : Int) < h 57 13 := by omega
    obtain ⟨g1, g2, g3, g4⟩ := fThen_in hI.1 hkr qb.1 qb.2
    have g5 := lessS_in (h 58) (h 59) b (fThen (h 58) (h 59) a.toNat b) k acc
    refine AW.iload (pc' := 7) dX12_lesserForms_5 rfl ?_
    refine AW.aload_n (pc' := 8) dX12_lesserForms_7 rfl ?_
    refine AW.getI (pc' := 11) dX12_lesserForms_8 ly_57 fX12_122 rfl (fun r8 => ?_)
    refine AW.icmp_ge (tgt := 44) (pc' := 14) dX12_lesserForms_11 (by first | assumption | omega | (constructor <;> omega) | (simp only [Int.toNat_natCast]; omega) | exact b2_in _) (by first | assumption | omega | (constructor <;> omega) | (simp only [Int.toNat_natCast]; omega) | exact b2_in _) (fun c11 => ?_) (fun c11 => ?_)
    · omega
    · refine AW.iload_n (pc' := 15) dX12_lesserForms_14 rfl ?_
      refine AW.aload_n (pc' := 16) dX12_lesserForms_15 rfl ?_
      refine AW.iload (pc' := 18) dX12_lesserForms_16 rfl ?_
      refine AW.iload_n (pc' := 19) dX12_lesserForms_18 rfl ?_
      refine AW.invV2 (pc' := 22) dX12_lesserForms_19 mlX12_235 mX12_formThen ly_57 rfl (c_X12_formThen (dep := dep - 1) (by first | assumption | omega | (constructor <;> omega) | (simp only [Int.toNat_natCast]; omega) | exact b2_in _) (by first | assumption | omega | (constructor <;> omega) | (simp only [Int.toNat_natCast]; omega) | exact b2_in _) (by first | assumption | omega | (constructor <;> omega) | (simp only [Int.toNat_natCast]; omega) | exact b2_in _)) ?_
      try simp only [Int.toNat_natCast]
      refine AW.aload_n (pc' := 23) dX12_lesserForms_22 rfl ?_
      refine AW.iload_n (pc' := 24) dX12_lesserForms_23 rfl ?_
      refine AW.iload_n (pc' := 25) dX12_lesserForms_24 rfl ?_
      refine AW.invV2 (pc' := 28) dX12_lesserForms_25 mlX12_235 mX12_formThen ly_57 rfl (c_X12_formThen (dep := dep - 1) (by first | assumption | omega | (constructor <;> omega) | (simp only [Int.toNat_natCast]; omega) | exact b2_in _) (by first | assumption | omega | (constructor <;> omega) | (simp only [Int.toNat_natCast]; omega) | exact b2_in _) (by first | assumption | omega | (constructor <;> omega) | (simp only [Int.toNat_natCast]; omega) | exact b2_in _)) ?_
      try simp only [Int.toNat_natCast]
      refine AW.icmp_ge (tgt := 35) (pc' := 31) dX12_lesserForms_28 (by first | assumption | omega | (constructor <;> omega) | (simp only [Int.toNat_natCast]; omega) | exact b2_in _) (by first | assumption | omega | (constructor <;> omega) | (simp only [Int.toNat_natCast]; omega) | exact b2_in _) (fun c28 => ?_) (fun c28 => ?_)
      · refine AW.iconst (pc' := 36) dX12_lesserForms_35 ?_
        refine AW.iadd (pc' := 37) dX12_lesserForms_36 ?_
        refine AW.istore3n (pc' := 38) dX12_lesserForms_37 (by decide) rfl ?_
        refine AW.iinc4 (pc' := 41) dX12_lesserForms_38 (by decide) rfl ?_
        refine AW.goto (tgt := 5) dX12_lesserForms_41 ?_
        exact AW.weak (ih (k + 1) ((lessS (h 58) (h 59) b (fThen (h 58) (h 59) a.toNat b)) k acc) (by omega) (by first | omega | (omega)) (by first | omega | (omega)) kk) (by (repeat' first | exact LSub.e | refine LSub.n ?_ | refine LSub.c ?_ ?_) <;> first | rfl | exact congrArg Sum.inl (by first | rfl | omega | (unfold lessS; split <;> omega)))
      · refine AW.iconst (pc' := 32) dX12_lesserForms_31 ?_
        refine AW.goto (tgt := 36) dX12_lesserForms_32 ?_
        refine AW.iadd (pc' := 37) dX12_lesserForms_36 ?_
        refine AW.istore3n (pc' := 38) dX12_lesserForms_37 (by decide) rfl ?_
        refine AW.iinc4 (pc' := 41) dX12_lesserForms_38 (by decide) rfl ?_
        refine AW.goto (tgt := 5) dX12_lesserForms_41 ?_
        exact AW.weak (ih (k + 1) ((lessS (h 58) (h 59) b (fThen (h 58) (h 59) a.toNat b)) k acc) (by omega) (by first | omega | (omega)) (by first | omega | (omega)) kk) (by (repeat' first | exact LSub.e | refine LSub.n ?_ | refine LSub.c ?_ ?_) <;> first | rfl | exact congrArg Sum.inl (by first | rfl | omega | (unfold lessS; split <;> omega)))
set_option maxRecDepth 100000 in
set_option maxHeartbeats 4000000 in
theorem c_X12_lesserForms {K : KT} {dep : Nat} {h : Hp} {a b : Int} (hd : 1 ≤ dep) (hI : IMa h) (q0 : 0 ≤ a ∧ a < h 57 13) (q1 : 0 ≤ b ∧ b ≤ 99) : AM K yX12_lesserForms cX12_lesserForms 5 (some .int) dep [vR 57, vI a, vI b] h (some (vI (lessF (h 57 13) (h 58) (h 59) a.toNat b))) (h) := by
  refine AM.of (own := RX12) (ls := [some (vR 57), some (vI a), some (vI b), none, none]) rfl (by decide +kernel) (by exact Nat.le_of_ble_eq_true rfl) rfl (fun hO => ?_)
  have g6 := hI.1.1
  have g7 := hI.1.2.1
  refine AW.iconst (pc' := 1) dX12_lesserForms_0 ?_
  refine AW.istore3n (pc' := 2) dX12_lesserForms_1 (by decide) rfl ?_
  refine AW.iconst (pc' := 3) dX12_lesserForms_2 ?_
  refine AW.istore4 (pc' := 5) dX12_lesserForms_3 (by decide) rfl ?_
  refine AW.weak (lp_X12_lesserForms hI q0 q1 hd (h 57 13).toNat 0 0 (by omega) (by omega) (by omega) ?_) (by (repeat' first | exact LSub.e | refine LSub.n ?_ | refine LSub.c ?_ ?_) <;> first | rfl | exact congrArg Sum.inl (by first | rfl | omega | omega))
  refine AW.iload_n (pc' := 45) dX12_lesserForms_44 rfl ?_
  refine AW.iret dX12_lesserForms_45 ?_ ?_
  all_goals first | rfl | exact congrArg (fun z : Int => (some (vI z) : Option AV)) (b2_t (by omega)) | exact congrArg (fun z : Int => (some (vI z) : Option AV)) (b2_f (by omega)) | ((repeat' split) <;> first | rfl | omega)
def bestS (none : Int) (co : Nat → Int) (om : Nat → Int) (c : Int) (k : Nat) (acc : Int) : Int := if co k = c ∧ (acc = none ∨ om k < om acc.toNat) then (k : Int) else acc
theorem bestS_in (none : Int) (co om : Nat → Int) (c : Int) (k : Nat) (acc : Int) (h : acc = none ∨ 0 ≤ acc ∧ acc < k) : bestS none co om c k acc = none ∨ 0 ≤ bestS none co om c k acc ∧ bestS none co om c k acc < k + 1 := by unfold bestS; split <;> omega
def bestF (none n : Int) (co om : Nat → Int) (c : Int) : Int := lp (bestS none co om c) n.toNat 0 none
theorem bestL_in (none : Int) (co om : Nat → Int) (c : Int) : ∀ (n k : Nat) (acc : Int), (acc = none ∨ 0 ≤ acc ∧ acc < k) → lp (bestS none co om c) n k acc = none ∨ 0 ≤ lp (bestS none co om c) n k acc ∧ lp (bestS none co om c) n k acc < k + n
  | 0, k, acc, h => by unfold lp; omega
  | n + 1, k, acc, h => by
    unfold lp
    have := bestL_in none co om c n (k + 1) (bestS none co om c k acc) (by have := bestS_in none co om c k acc h; omega)
    omega
theorem bestF_in (none n : Int) (co om : Nat → Int) (c : Int) (hn : 0 ≤ n) : bestF none n co om c = none ∨ 0 ≤ bestF none n co om c ∧ bestF none n co om c < n := by
  unfold bestF
  have := bestL_in none co om c n.toNat 0 none (Or.inl rfl)
  omega
set_option maxRecDepth 100000 in
set_option maxHeartbeats 4000000 in
theorem lp_X7_bestOf {K : KT} {X : XT} {dep : Nat} {h : Hp} {c : Int} (hI : IXa h) (hc : inI c) (hd : 3 ≤ dep) : ∀ (n k : Nat) (acc : Int), (k : Int) + n = h 12 10 → acc = -2 ∨ 0 ≤ acc ∧ acc < k → AW K X RX7 cX7_bestOf 4 (some .int) dep 50 [some (vR 12), some (vI (c)), some (vI ((lp (bestS (-2) (h 14) (oldM (h 16) (h 17) (h 8)) c) n k acc))), none] [] h → AW K X RX7 cX7_bestOf 4 (some .int) dep 5 [some (vR 12), some (vI (c)), some (vI (acc)), some (vI ((k : Int)))] [] h := by
  have g6 := hI.2.2.2.1
  have g7 := hI.2.2.2.2.1
  have g8 := hI.2.1.2.1
  intro n
  induction n with
  | zero =>
    intro k acc hk i0 kk
    refine AW.iload_n (pc' := 6) dX7_bestOf_5 rfl ?_
    refine AW.aload_n (pc' := 7) dX7_bestOf_6 rfl ?_
    refine AW.getI (pc' := 10) dX7_bestOf_7 ly_12 fX7_44 rfl (fun r7 => ?_)
    refine AW.icmp_ge (tgt := 50) (pc' := 13) dX7_bestOf_10 (by first | assumption | omega | (constructor <;> omega) | (simp only [Int.toNat_natCast]; omega) | exact b2_in _) (by first | assumption | omega | (constructor <;> omega) | (simp only [Int.toNat_natCast]; omega) | exact b2_in _) (fun c10 => ?_) (fun c10 => ?_)
    · exact AW.weak kk (by (repeat' first | exact LSub.e | refine LSub.n ?_ | refine LSub.c ?_ ?_) <;> first | rfl | exact congrArg Sum.inl (by first | rfl | omega | omega))
    · omega
  | succ n ih =>
    intro k acc hk i0 kk
    have hkr : ((k : Nat) : Int) < h 12 10 := by omega
    have g5 := oldM_in hI.2.2.2 hI.2.1 hkr
    refine AW.iload_n (pc' := 6) dX7_bestOf_5 rfl ?_
    refine AW.aload_n (pc' := 7) dX7_bestOf_6 rfl ?_
    refine AW.getI (pc' := 10) dX7_bestOf_7 ly_12 fX7_44 rfl (fun r7 => ?_)
    refine AW.icmp_ge (tgt := 50) (pc' := 13) dX7_bestOf_10 (by first | assumption | omega | (constructor <;> omega) | (simp only [Int.toNat_natCast]; omega) | exact b2_in _) (by first | assumption | omega | (constructor <;> omega) | (simp only [Int.toNat_natCast]; omega) | exact b2_in _) (fun c10 => ?_) (fun c10 => ?_)
    · omega
    · refine AW.aload_n (pc' := 14) dX7_bestOf_13 rfl ?_
      refine AW.getR (pc' := 17) dX7_bestOf_14 ly_12 fX7_15 rfl ?_
      refine AW.iload_n (pc' := 18) dX7_bestOf_17 rfl ?_
      first | refine AW.ialdN (pc' := 19) dX7_bestOf_18 ly_14 (by first | assumption | omega | (constructor <;> omega) | (simp only [Int.toNat_natCast]; omega) | exact b2_in _) (by decide) (fun r18 => ?_) | refine AW.iald (pc' := 19) dX7_bestOf_18 ly_14 (by first | assumption | omega | (constructor <;> omega) | (simp only [Int.toNat_natCast]; omega) | exact b2_in _) (by first | assumption | omega | (constructor <;> omega) | (simp only [Int.toNat_natCast]; omega) | exact b2_in _) (by decide) (fun r18 => ?_)
      refine AW.iload_n (pc' := 20) dX7_bestOf_19 rfl ?_
      refine AW.icmp_ne (tgt := 44) (pc' := 23) dX7_bestOf_20 (by first | assumption | omega | (constructor <;> omega) | (simp only [Int.toNat_natCast]; omega) | exact b2_in _) (by first | assumption | omega | (constructor <;> omega) | (simp only [Int.toNat_natCast]; omega) | exact b2_in _) (fun c20 => ?_) (fun c20 => ?_)
      · refine AW.iinc3 (pc' := 47) dX7_bestOf_44 (by decide) rfl ?_
        refine AW.goto (tgt := 5) dX7_bestOf_47 ?_
        exact AW.weak (ih (k + 1) ((bestS (-2) (h 14) (oldM (h 16) (h 17) (h 8)) c) k acc) (by omega) (by first | omega | (have := bestS_in (-2) (h 14) (oldM (h 16) (h 17) (h 8)) c k acc i0; omega)) kk) (by (repeat' first | exact LSub.e | refine LSub.n ?_ | refine LSub.c ?_ ?_) <;> first | rfl | exact congrArg Sum.inl (by first | rfl | omega | (unfold bestS; (repeat' split) <;> omega)))
      · refine AW.iload_n (pc' := 24) dX7_bestOf_23 rfl ?_
        refine AW.bipush (pc' := 26) dX7_bestOf_24 (by decide) ?_
        refine AW.icmp_eq (tgt := 42) (pc' := 29) dX7_bestOf_26 (by first | assumption | omega | (constructor <;> omega) | (simp only [Int.toNat_natCast]; omega) | exact b2_in _) (by first | assumption | omega | (constructor <;> omega) | (simp only [Int.toNat_natCast]; omega) | exact b2_in _) (fun c26 => ?_) (fun c26 => ?_)
        · refine AW.iload_n (pc' := 43) dX7_bestOf_42 rfl ?_
          refine AW.istore2n (pc' := 44) dX7_bestOf_43 (by decide) rfl ?_
          refine AW.iinc3 (pc' := 47) dX7_bestOf_44 (by decide) rfl ?_
          refine AW.goto (tgt := 5) dX7_bestOf_47 ?_
          exact AW.weak (ih (k + 1) ((bestS (-2) (h 14) (oldM (h 16) (h 17) (h 8)) c) k acc) (by omega) (by first | omega | (have := bestS_in (-2) (h 14) (oldM (h 16) (h 17) (h 8)) c k acc i0; omega)) kk) (by (repeat' first | exact LSub.e | refine LSub.n ?_ | refine LSub.c ?_ ?_) <;> first | rfl | exact congrArg Sum.inl (by first | rfl | omega | (unfold bestS; (repeat' split) <;> omega)))
        · refine AW.aload_n (pc' := 30) dX7_bestOf_29 rfl ?_
          refine AW.iload_n (pc' := 31) dX7_bestOf_30 rfl ?_
          refine AW.invV1 (pc' := 34) dX7_bestOf_31 mlX7_93 mX7_oldMinutes ly_12 rfl (c_X7_oldMinutes (dep := dep - 1) (by first | assumption | omega | (constructor <;> omega) | (simp only [Int.toNat_natCast]; omega) | exact b2_in _) (by first | assumption | omega | (constructor <;> omega) | (simp only [Int.toNat_natCast]; omega) | exact b2_in _) (by first | assumption | omega | (constructor <;> omega) | (simp only [Int.toNat_natCast]; omega) | exact b2_in _)) ?_
          try simp only [Int.toNat_natCast]
          refine AW.aload_n (pc' := 35) dX7_bestOf_34 rfl ?_
          refine AW.iload_n (pc' := 36) dX7_bestOf_35 rfl ?_
          have g9 := oldM_in hI.2.2.2 hI.2.1 (r := acc.toNat) (by omega)
          refine AW.invV1 (pc' := 39) dX7_bestOf_36 mlX7_93 mX7_oldMinutes ly_12 rfl (c_X7_oldMinutes (dep := dep - 1) (by first | assumption | omega | (constructor <;> omega) | (simp only [Int.toNat_natCast]; omega) | exact b2_in _) (by first | assumption | omega | (constructor <;> omega) | (simp only [Int.toNat_natCast]; omega) | exact b2_in _) (by first | assumption | omega | (constructor <;> omega) | (simp only [Int.toNat_natCast]; omega) | exact b2_in _)) ?_
          try simp only [Int.toNat_natCast]
          refine AW.icmp_ge (tgt := 44) (pc' := 42) dX7_bestOf_39 (by first | assumption | omega | (constructor <;> omega) | (simp only [Int.toNat_natCast]; omega) | exact b2_in _) (by first | assumption | omega | (constructor <;> omega) | (simp only [Int.toNat_natCast]; omega) | exact b2_in _) (fun c39 => ?_) (fun c39 => ?_)
          · refine AW.iinc3 (pc' := 47) dX7_bestOf_44 (by decide) rfl ?_
            refine AW.goto (tgt := 5) dX7_bestOf_47 ?_
            exact AW.weak (ih (k + 1) ((bestS (-2) (h 14) (oldM (h 16) (h 17) (h 8)) c) k acc) (by omega) (by first | omega | (have := bestS_in (-2) (h 14) (oldM (h 16) (h 17) (h 8)) c k acc i0; omega)) kk) (by (repeat' first | exact LSub.e | refine LSub.n ?_ | refine LSub.c ?_ ?_) <;> first | rfl | exact congrArg Sum.inl (by first | rfl | omega | (unfold bestS; (repeat' split) <;> omega)))
          · refine AW.iload_n (pc' := 43) dX7_bestOf_42 rfl ?_
            refine AW.istore2n (pc' := 44) dX7_bestOf_43 (by decide) rfl ?_
            refine AW.iinc3 (pc' := 47) dX7_bestOf_44 (by decide) rfl ?_
            refine AW.goto (tgt := 5) dX7_bestOf_47 ?_
            exact AW.weak (ih (k + 1) ((bestS (-2) (h 14) (oldM (h 16) (h 17) (h 8)) c) k acc) (by omega) (by first | omega | (have := bestS_in (-2) (h 14) (oldM (h 16) (h 17) (h 8)) c k acc i0; omega)) kk) (by (repeat' first | exact LSub.e | refine LSub.n ?_ | refine LSub.c ?_ ?_) <;> first | rfl | exact congrArg Sum.inl (by first | rfl | omega | (unfold bestS; (repeat' split) <;> omega)))
set_option maxRecDepth 100000 in
set_option maxHeartbeats 4000000 in
theorem c_X7_bestOf {K : KT} {dep : Nat} {h : Hp} {c : Int} (hd : 3 ≤ dep) (hI : IXa h) (q1 : inI c) : AM K yX7_bestOf cX7_bestOf 4 (some .int) dep [vR 12, vI c] h (some (vI (bestF (-2) (h 12 10) (h 14) (oldM (h 16) (h 17) (h 8)) c))) (h) := by
  refine AM.of (own := RX7) (ls := [some (vR 12), some (vI c), none, none]) rfl (by decide +kernel) (by exact Nat.le_of_ble_eq_true rfl) rfl (fun hO => ?_)
  have g6 := hI.2.2.2.1
  have g7 := hI.2.2.2.2.1
  have g8 := hI.2.1.2.1
  refine AW.bipush (pc' := 2) dX7_bestOf_0 (by decide) ?_
  refine AW.istore2n (pc' := 3) dX7_bestOf_2 (by decide) rfl ?_
  refine AW.iconst (pc' := 4) dX7_bestOf_3 ?_
  refine AW.istore3n (pc' := 5) dX7_bestOf_4 (by decide) rfl ?_
  refine AW.weak (lp_X7_bestOf hI (c := c) (by first | assumption | omega | (constructor <;> omega) | (simp only [Int.toNat_natCast]; omega) | exact b2_in _) hd (h 12 10).toNat 0 (-2) (by omega) (by omega) ?_) (by (repeat' first | exact LSub.e | refine LSub.n ?_ | refine LSub.c ?_ ?_) <;> first | rfl | exact congrArg Sum.inl (by first | rfl | omega | omega))
  refine AW.iload_n (pc' := 51) dX7_bestOf_50 rfl ?_
  refine AW.iret dX7_bestOf_51 ?_ ?_
  all_goals first | rfl | exact congrArg (fun z : Int => (some (vI z) : Option AV)) (b2_t (by omega)) | exact congrArg (fun z : Int => (some (vI z) : Option AV)) (b2_f (by omega)) | ((repeat' split) <;> first | rfl | omega)
set_option maxRecDepth 100000 in
set_option maxHeartbeats 4000000 in
theorem lp_X12_best {K : KT} {X : XT} {dep : Nat} {h : Hp} {c y w : Int} (hI : IMa h) (hc : inI c) (hd : 1 ≤ dep) : ∀ (n k : Nat) (acc : Int), (k : Int) + n = h 57 16 → acc = -1 ∨ 0 ≤ acc ∧ acc < k → AW K X RX12 cX12_best 6 (some .int) dep 85 [some (vR 57), some (vI (c)), some (vI (y)), some (vI (w)), some (vI ((lp (bestS (-1) (h 67) (oldM (h 69) (h 70) (h 63)) c) n k acc))), none] [] h → AW K X RX12 cX12_best 6 (some .int) dep 35 [some (vR 57), some (vI (c)), some (vI (y)), some (vI (w)), some (vI (acc)), some (vI ((k : Int)))] [] h := by
  have g6 := hI.2.2.2.1
  have g7 := hI.2.2.2.2.1
  have g8 := hI.2.1.2.1
  intro n
  induction n with
  | zero =>
    intro k acc hk i0 kk
    refine AW.iload (pc' := 37) dX12_best_35 rfl ?_
    refine AW.aload_n (pc' := 38) dX12_best_37 rfl ?_
    refine AW.getI (pc' := 41) dX12_best_38 ly_57 fX12_128 rfl (fun r38 => ?_)
    refine AW.icmp_ge (tgt := 85) (pc' := 44) dX12_best_41 (by first | assumption | omega | (constructor <;> omega) | (simp only [Int.toNat_natCast]; omega) | exact b2_in _) (by first | assumption | omega | (constructor <;> omega) | (simp only [Int.toNat_natCast]; omega) | exact b2_in _) (fun c41 => ?_) (fun c41 => ?_)
    · exact AW.weak kk (by (repeat' first | exact LSub.e | refine LSub.n ?_ | refine LSub.c ?_ ?_) <;> first | rfl | exact congrArg Sum.inl (by first | rfl | omega | omega))
    · omega
  | succ n ih =>
    intro k acc hk i0 kk
    have hkr : ((k : Nat) : Int) < h 57 16 := by omega
    have g5 := oldM_in hI.2.2.2 hI.2.1 hkr
    refine AW.iload (pc' := 37) dX12_best_35 rfl ?_
    refine AW.aload_n (pc' := 38) dX12_best_37 rfl ?_
    refine AW.getI (pc' := 41) dX12_best_38 ly_57 fX12_128 rfl (fun r38 => ?_)
    refine AW.icmp_ge (tgt := 85) (pc' := 44) dX12_best_41 (by first | assumption | omega | (constructor <;> omega) | (simp only [Int.toNat_natCast]; omega) | exact b2_in _) (by first | assumption | omega | (constructor <;> omega) | (simp only [Int.toNat_natCast]; omega) | exact b2_in _) (fun c41 => ?_) (fun c41 => ?_)
    · omega
    · refine AW.aload_n (pc' := 45) dX12_best_44 rfl ?_
      refine AW.getR (pc' := 48) dX12_best_45 ly_57 fX12_37 rfl ?_
      refine AW.iload (pc' := 50) dX12_best_48 rfl ?_
      first | refine AW.ialdN (pc' := 51) dX12_best_50 ly_67 (by first | assumption | omega | (constructor <;> omega) | (simp only [Int.toNat_natCast]; omega) | exact b2_in _) (by decide) (fun r50 => ?_) | refine AW.iald (pc' := 51) dX12_best_50 ly_67 (by first | assumption | omega | (constructor <;> omega) | (simp only [Int.toNat_natCast]; omega) | exact b2_in _) (by first | assumption | omega | (constructor <;> omega) | (simp only [Int.toNat_natCast]; omega) | exact b2_in _) (by decide) (fun r50 => ?_)
      refine AW.iload_n (pc' := 52) dX12_best_51 rfl ?_
      refine AW.icmp_ne (tgt := 79) (pc' := 55) dX12_best_52 (by first | assumption | omega | (constructor <;> omega) | (simp only [Int.toNat_natCast]; omega) | exact b2_in _) (by first | assumption | omega | (constructor <;> omega) | (simp only [Int.toNat_natCast]; omega) | exact b2_in _) (fun c52 => ?_) (fun c52 => ?_)
      · refine AW.iinc5 (pc' := 82) dX12_best_79 (by decide) rfl ?_
        refine AW.goto (tgt := 35) dX12_best_82 ?_
        exact AW.weak (ih (k + 1) ((bestS (-1) (h 67) (oldM (h 69) (h 70) (h 63)) c) k acc) (by omega) (by first | omega | (have := bestS_in (-1) (h 67) (oldM (h 69) (h 70) (h 63)) c k acc i0; omega)) kk) (by (repeat' first | exact LSub.e | refine LSub.n ?_ | refine LSub.c ?_ ?_) <;> first | rfl | exact congrArg Sum.inl (by first | rfl | omega | (unfold bestS; (repeat' split) <;> omega)))
      · refine AW.iload (pc' := 57) dX12_best_55 rfl ?_
        refine AW.if_lt (tgt := 75) (pc' := 60) dX12_best_57 (by first | assumption | omega | (constructor <;> omega) | (simp only [Int.toNat_natCast]; omega) | exact b2_in _) (fun c57 => ?_) (fun c57 => ?_)
        · refine AW.iload (pc' := 77) dX12_best_75 rfl ?_
          refine AW.istore4 (pc' := 79) dX12_best_77 (by decide) rfl ?_
          refine AW.iinc5 (pc' := 82) dX12_best_79 (by decide) rfl ?_
          refine AW.goto (tgt := 35) dX12_best_82 ?_
          exact AW.weak (ih (k + 1) ((bestS (-1) (h 67) (oldM (h 69) (h 70) (h 63)) c) k acc) (by omega) (by first | omega | (have := bestS_in (-1) (h 67) (oldM (h 69) (h 70) (h 63)) c k acc i0; omega)) kk) (by (repeat' first | exact LSub.e | refine LSub.n ?_ | refine LSub.c ?_ ?_) <;> first | rfl | exact congrArg Sum.inl (by first | rfl | omega | (unfold bestS; (repeat' split) <;> omega)))
        · refine AW.aload_n (pc' := 61) dX12_best_60 rfl ?_
          refine AW.iload (pc' := 63) dX12_best_61 rfl ?_
          refine AW.invV1 (pc' := 66) dX12_best_63 mlX12_161 mX12_oldMinutes ly_57 rfl (c_X12_oldMinutes (dep := dep - 1) (by first | assumption | omega | (constructor <;> omega) | (simp only [Int.toNat_natCast]; omega) | exact b2_in _) (by first | assumption | omega | (constructor <;> omega) | (simp only [Int.toNat_natCast]; omega) | exact b2_in _)) ?_
          try simp only [Int.toNat_natCast]
          have g9 := oldM_in hI.2.2.2 hI.2.1 (r := acc.toNat) (by omega)
          refine AW.aload_n (pc' := 67) dX12_best_66 rfl ?_
          refine AW.iload (pc' := 69) dX12_best_67 rfl ?_
          refine AW.invV1 (pc' := 72) dX12_best_69 mlX12_161 mX12_oldMinutes ly_57 rfl (c_X12_oldMinutes (dep := dep - 1) (by first | assumption | omega | (constructor <;> omega) | (simp only [Int.toNat_natCast]; omega) | exact b2_in _) (by first | assumption | omega | (constructor <;> omega) | (simp only [Int.toNat_natCast]; omega) | exact b2_in _)) ?_
          try simp only [Int.toNat_natCast]
          refine AW.icmp_ge (tgt := 79) (pc' := 75) dX12_best_72 (by first | assumption | omega | (constructor <;> omega) | (simp only [Int.toNat_natCast]; omega) | exact b2_in _) (by first | assumption | omega | (constructor <;> omega) | (simp only [Int.toNat_natCast]; omega) | exact b2_in _) (fun c72 => ?_) (fun c72 => ?_)
          · refine AW.iinc5 (pc' := 82) dX12_best_79 (by decide) rfl ?_
            refine AW.goto (tgt := 35) dX12_best_82 ?_
            exact AW.weak (ih (k + 1) ((bestS (-1) (h 67) (oldM (h 69) (h 70) (h 63)) c) k acc) (by omega) (by first | omega | (have := bestS_in (-1) (h 67) (oldM (h 69) (h 70) (h 63)) c k acc i0; omega)) kk) (by (repeat' first | exact LSub.e | refine LSub.n ?_ | refine LSub.c ?_ ?_) <;> first | rfl | exact congrArg Sum.inl (by first | rfl | omega | (unfold bestS; (repeat' split) <;> omega)))
          · refine AW.iload (pc' := 77) dX12_best_75 rfl ?_
            refine AW.istore4 (pc' := 79) dX12_best_77 (by decide) rfl ?_
            refine AW.iinc5 (pc' := 82) dX12_best_79 (by decide) rfl ?_
            refine AW.goto (tgt := 35) dX12_best_82 ?_
            exact AW.weak (ih (k + 1) ((bestS (-1) (h 67) (oldM (h 69) (h 70) (h 63)) c) k acc) (by omega) (by first | omega | (have := bestS_in (-1) (h 67) (oldM (h 69) (h 70) (h 63)) c k acc i0; omega)) kk) (by (repeat' first | exact LSub.e | refine LSub.n ?_ | refine LSub.c ?_ ?_) <;> first | rfl | exact congrArg Sum.inl (by first | rfl | omega | (unfold bestS; (repeat' split) <;> omega)))
