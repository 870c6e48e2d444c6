/-! of, dead, trace, count, belt, elements: both -/
def whS (who worn ye : Nat → Int) (run : Int) (k : Nat) (acc : Int) : Int := if who k = who run.toNat ∧ worn k = worn run.toNat ∧ aheadI ye k run then acc + 1 else acc
def whF (n : Int) (who worn ye : Nat → Int) (run : Int) : Int := lp (whS who worn ye run) n.toNat 0 0
/-- the same by an order of the runs: how many stand ahead of the run -/
def wiF (who worn ord : Nat → Int) (run : Int) : Nat → Nat → Int → Int
  | 0, _, acc => acc
  | n + 1, k, acc => if ord k = run then acc else wiF who worn ord run n (k + 1) (if who (ord k).toNat = who run.toNat ∧ worn (ord k).toNat = worn run.toNat then acc + 1 else acc)
set_option maxRecDepth 100000 in
set_option maxHeartbeats 4000000 in
theorem lp_X12_whichOf {K : KT} {X : XT} {dep : Nat} {h : Hp} {a : Int} (hI : IMa h) (q0 : 0 ≤ a ∧ a < h 57 16) (hd : 1 ≤ dep) : ∀ (n k : Nat) (acc : Int), (k : Int) + n = h 57 16 → 0 ≤ acc → acc ≤ k → AW K X RX12 cX12_whichOf 4 (some .int) dep 76 [some (vR 57), some (vI (a)), some (vI ((lp (whS (h 66) (h 70) (h 68) a) n k acc))), none] [] h → AW K X RX12 cX12_whichOf 4 (some .int) dep 15 [some (vR 57), some (vI (a)), some (vI (acc)), some (vI ((k : Int)))] [] h := by
  have g6 := hI.2.2.2.1
  have g7 := hI.2.2.2.2.1
  have g8 := hI.2.1.2.1
  intro n
  induction n with
  | zero =>
    intro k acc hk i0 i1 kk
    refine AW.iload_n (pc' := 16) dX12_whichOf_15 rfl ?_
    refine AW.aload_n (pc' := 17) dX12_whichOf_16 rfl ?_
    refine AW.getI (pc' := 20) dX12_whichOf_17 ly_57 fX12_128 rfl (fun r17 => ?_)
    refine AW.icmp_ge (tgt := 76) (pc' := 23) dX12_whichOf_20 (by first | assumption | omega | (constructor <;> omega) | (simp only [Int.toNat_natCast]; omega) | exact b2_in _) (by first | assumption | omega | (constructor <;> omega) | (simp only [Int.toNat_natCast]; omega) | exact b2_in _) (fun c20 => ?_) (fun c20 => ?_)
    · exact AW.weak kk (by (repeat' first | exact LSub.e | refine LSub.n ?_ | refine LSub.c ?_ ?_) <;> first | rfl | exact congrArg Sum.inl (by first | rfl | omega | omega))
    · omega
  | succ n ih =>
    intro k acc hk i0 i1 kk
    have hkr : ((k : Nat) : Int) < h 57 16 := by omega
    refine AW.iload_n (pc' := 16) dX12_whichOf_15 rfl ?_
    refine AW.aload_n (pc' := 17) dX12_whichOf_16 rfl ?_
    refine AW.getI (pc' := 20) dX12_whichOf_17 ly_57 fX12_128 rfl (fun r17 => ?_)
    refine AW.icmp_ge (tgt := 76) (pc' := 23) dX12_whichOf_20 (by first | assumption | omega | (constructor <;> omega) | (simp only [Int.toNat_natCast]; omega) | exact b2_in _) (by first | assumption | omega | (constructor <;> omega) | (simp only [Int.toNat_natCast]; omega) | exact b2_in _) (fun c20 => ?_) (fun c20 => ?_)
    · omega
    · refine AW.iload_n (pc' := 24) dX12_whichOf_23 rfl ?_
      refine AW.aload_n (pc' := 25) dX12_whichOf_24 rfl ?_
      refine AW.getR (pc' := 28) dX12_whichOf_25 ly_57 fX12_34 rfl ?_
      refine AW.iload_n (pc' := 29) dX12_whichOf_28 rfl ?_
      first | refine AW.ialdN (pc' := 30) dX12_whichOf_29 ly_66 (by first | assumption | omega | (constructor <;> omega) | (simp only [Int.toNat_natCast]; omega) | exact b2_in _) (by decide) (fun r29 => ?_) | refine AW.iald (pc' := 30) dX12_whichOf_29 ly_66 (by first | assumption | omega | (constructor <;> omega) | (simp only [Int.toNat_natCast]; omega) | exact b2_in _) (by first | assumption | omega | (constructor <;> omega) | (simp only [Int.toNat_natCast]; omega) | exact b2_in _) (by decide) (fun r29 => ?_)
      refine AW.aload_n (pc' := 31) dX12_whichOf_30 rfl ?_
      refine AW.getR (pc' := 34) dX12_whichOf_31 ly_57 fX12_34 rfl ?_
      refine AW.iload_n (pc' := 35) dX12_whichOf_34 rfl ?_
      first | refine AW.ialdN (pc' := 36) dX12_whichOf_35 ly_66 (by first | assumption | omega | (constructor <;> omega) | (simp only [Int.toNat_natCast]; omega) | exact b2_in _) (by decide) (fun r35 => ?_) | refine AW.iald (pc' := 36) dX12_whichOf_35 ly_66 (by first | assumption | omega | (constructor <;> omega) | (simp only [Int.toNat_natCast]; omega) | exact b2_in _) (by first | assumption | omega | (constructor <;> omega) | (simp only [Int.toNat_natCast]; omega) | exact b2_in _) (by decide) (fun r35 => ?_)
      refine AW.icmp_ne (tgt := 67) (pc' := 39) dX12_whichOf_36 (by first | assumption | omega | (constructor <;> omega) | (simp only [Int.toNat_natCast]; omega) | exact b2_in _) (by first | assumption | omega | (constructor <;> omega) | (simp only [Int.toNat_natCast]; omega) | exact b2_in _) (fun c36 => ?_) (fun c36 => ?_)
      · refine AW.iconst (pc' := 68) dX12_whichOf_67 ?_
        refine AW.iadd (pc' := 69) dX12_whichOf_68 ?_
        refine AW.istore2n (pc' := 70) dX12_whichOf_69 (by decide) rfl ?_
        refine AW.iinc3 (pc' := 73) dX12_whichOf_70 (by decide) rfl ?_
        refine AW.goto (tgt := 15) dX12_whichOf_73 ?_
        exact AW.weak (ih (k + 1) ((whS (h 66) (h 70) (h 68) a) k acc) (by omega) (by first | omega | ((unfold whS; split <;> omega))) (by first | omega | ((unfold whS; split <;> omega))) kk) (by (repeat' first | exact LSub.e | refine LSub.n ?_ | refine LSub.c ?_ ?_) <;> first | rfl | exact congrArg Sum.inl (by first | rfl | omega | (unfold whS; simp only [aheadI, Int.toNat_natCast] at *; (repeat' split) <;> omega)))
      · refine AW.aload_n (pc' := 40) dX12_whichOf_39 rfl ?_
        refine AW.getR (pc' := 43) dX12_whichOf_40 ly_57 fX12_46 rfl ?_
        refine AW.iload_n (pc' := 44) dX12_whichOf_43 rfl ?_
        first | refine AW.ialdN (pc' := 45) dX12_whichOf_44 ly_70 (by first | assumption | omega | (constructor <;> omega) | (simp only [Int.toNat_natCast]; omega) | exact b2_in _) (by decide) (fun r44 => ?_) | refine AW.iald (pc' := 45) dX12_whichOf_44 ly_70 (by first | assumption | omega | (constructor <;> omega) | (simp only [Int.toNat_natCast]; omega) | exact b2_in _) (by first | assumption | omega | (constructor <;> omega) | (simp only [Int.toNat_natCast]; omega) | exact b2_in _) (by decide) (fun r44 => ?_)
        refine AW.aload_n (pc' := 46) dX12_whichOf_45 rfl ?_
        refine AW.getR (pc' := 49) dX12_whichOf_46 ly_57 fX12_46 rfl ?_
        refine AW.iload_n (pc' := 50) dX12_whichOf_49 rfl ?_
        first | refine AW.ialdN (pc' := 51) dX12_whichOf_50 ly_70 (by first | assumption | omega | (constructor <;> omega) | (simp only [Int.toNat_natCast]; omega) | exact b2_in _) (by decide) (fun r50 => ?_) | refine AW.iald (pc' := 51) dX12_whichOf_50 ly_70 (by first | assumption | omega | (constructor <;> omega) | (simp only [Int.toNat_natCast]; omega) | exact b2_in _) (by first | assumption | omega | (constructor <;> omega) | (simp only [Int.toNat_natCast]; omega) | exact b2_in _) (by decide) (fun r50 => ?_)
        refine AW.icmp_ne (tgt := 67) (pc' := 54) dX12_whichOf_51 (by first | assumption | omega | (constructor <;> omega) | (simp only [Int.toNat_natCast]; omega) | exact b2_in _) (by first | assumption | omega | (constructor <;> omega) | (simp only [Int.toNat_natCast]; omega) | exact b2_in _) (fun c51 => ?_) (fun c51 => ?_)
        · refine AW.iconst (pc' := 68) dX12_whichOf_67 ?_
          refine AW.iadd (pc' := 69) dX12_whichOf_68 ?_
          refine AW.istore2n (pc' := 70) dX12_whichOf_69 (by decide) rfl ?_
          refine AW.iinc3 (pc' := 73) dX12_whichOf_70 (by decide) rfl ?_
          refine AW.goto (tgt := 15) dX12_whichOf_73 ?_
          exact AW.weak (ih (k + 1) ((whS (h 66) (h 70) (h 68) a) k acc) (by omega) (by first | omega | ((unfold whS; split <;> omega))) (by first | omega | ((unfold whS; split <;> omega))) kk) (by (repeat' first | exact LSub.e | refine LSub.n ?_ | refine LSub.c ?_ ?_) <;> first | rfl | exact congrArg Sum.inl (by first | rfl | omega | (unfold whS; simp only [aheadI, Int.toNat_natCast] at *; (repeat' split) <;> omega)))
        · refine AW.aload_n (pc' := 55) dX12_whichOf_54 rfl ?_
          refine AW.iload_n (pc' := 56) dX12_whichOf_55 rfl ?_
          refine AW.iload_n (pc' := 57) dX12_whichOf_56 rfl ?_
          refine AW.invV2 (pc' := 60) dX12_whichOf_57 mlX12_149 mX12_isAhead ly_57 rfl (c_X12_isAhead (dep := dep - 1) (by first | assumption | omega | (constructor <;> omega) | (simp only [Int.toNat_natCast]; omega) | exact b2_in _) (by first | assumption | omega | (constructor <;> omega) | (simp only [Int.toNat_natCast]; omega) | exact b2_in _)) ?_
          try simp only [Int.toNat_natCast]
          refine AW.ifb_eq (tgt := 67) (pc' := 63) dX12_whichOf_60 (fun c60 => ?_) (fun c60 => ?_)
          · refine AW.iconst (pc' := 68) dX12_whichOf_67 ?_
            refine AW.iadd (pc' := 69) dX12_whichOf_68 ?_
            refine AW.istore2n (pc' := 70) dX12_whichOf_69 (by decide) rfl ?_
            refine AW.iinc3 (pc' := 73) dX12_whichOf_70 (by decide) rfl ?_
            refine AW.goto (tgt := 15) dX12_whichOf_73 ?_
            exact AW.weak (ih (k + 1) ((whS (h 66) (h 70) (h 68) a) k acc) (by omega) (by first | omega | ((unfold whS; split <;> omega))) (by first | omega | ((unfold whS; split <;> omega))) kk) (by (repeat' first | exact LSub.e | refine LSub.n ?_ | refine LSub.c ?_ ?_) <;> first | rfl | exact congrArg Sum.inl (by first | rfl | omega | (unfold whS; simp only [aheadI, Int.toNat_natCast] at *; (repeat' split) <;> omega)))
          · refine AW.iconst (pc' := 64) dX12_whichOf_63 ?_
            refine AW.goto (tgt := 68) dX12_whichOf_64 ?_
            refine AW.iadd (pc' := 69) dX12_whichOf_68 ?_
            refine AW.istore2n (pc' := 70) dX12_whichOf_69 (by decide) rfl ?_
            refine AW.iinc3 (pc' := 73) dX12_whichOf_70 (by decide) rfl ?_
            refine AW.goto (tgt := 15) dX12_whichOf_73 ?_
            exact AW.weak (ih (k + 1) ((whS (h 66) (h 70) (h 68) a) k acc) (by omega) (by first | omega | ((unfold whS; split <;> omega))) (by first | omega | ((unfold whS; split <;> omega))) kk) (by (repeat' first | exact LSub.e | refine LSub.n ?_ | refine LSub.c ?_ ?_) <;> first | rfl | exact congrArg Sum.inl (by first | rfl | omega | (unfold whS; simp only [aheadI, Int.toNat_natCast] at *; (repeat' split) <;> omega)))
set_option maxRecDepth 100000 in
set_option maxHeartbeats 4000000 in
theorem c_X12_whichOf {K : KT} {dep : Nat} {h : Hp} {a : Int} (hd : 1 ≤ dep) (hI : IMa h) (q0 : 0 ≤ a ∧ a < h 57 16) : AM K yX12_whichOf cX12_whichOf 4 (some .int) dep [vR 57, vI a] h (some (vI (if h 70 a.toNat < 0 then -1 else whF (h 57 16) (h 66) (h 70) (h 68) a))) (h) := by
  refine AM.of (own := RX12) (ls := [some (vR 57), some (vI a), none, none]) rfl (by decide +kernel) (by exact Nat.le_of_ble_eq_true rfl) rfl (fun hO => ?_)
  have g6 := hI.2.2.2.1
  have g7 := hI.2.2.2.2.1
  have g8 := hI.2.1.2.1
  refine AW.aload_n (pc' := 1) dX12_whichOf_0 rfl ?_
  refine AW.getR (pc' := 4) dX12_whichOf_1 ly_57 fX12_46 rfl ?_
  refine AW.iload_n (pc' := 5) dX12_whichOf_4 rfl ?_
  first | refine AW.ialdN (pc' := 6) dX12_whichOf_5 ly_70 (by first | assumption | omega | (constructor <;> omega) | (simp only [Int.toNat_natCast]; omega) | exact b2_in _) (by decide) (fun r5 => ?_) | refine AW.iald (pc' := 6) dX12_whichOf_5 ly_70 (by first | assumption | omega | (constructor <;> omega) | (simp only [Int.toNat_natCast]; omega) | exact b2_in _) (by first | assumption | omega | (constructor <;> omega) | (simp only [Int.toNat_natCast]; omega) | exact b2_in _) (by decide) (fun r5 => ?_)
  refine AW.if_ge (tgt := 11) (pc' := 9) dX12_whichOf_6 (by first | assumption | omega | (constructor <;> omega) | (simp only [Int.toNat_natCast]; omega) | exact b2_in _) (fun c6 => ?_) (fun c6 => ?_)
  · refine AW.iconst (pc' := 12) dX12_whichOf_11 ?_
    refine AW.istore2n (pc' := 13) dX12_whichOf_12 (by decide) rfl ?_
    refine AW.iconst (pc' := 14) dX12_whichOf_13 ?_
    refine AW.istore3n (pc' := 15) dX12_whichOf_14 (by decide) rfl ?_
    refine AW.weak (lp_X12_whichOf hI q0 hd (h 57 16).toNat 0 0 (by omega) (by omega) (by omega) ?_) (by (repeat' first | exact LSub.e | refine LSub.n ?_ | refine LSub.c ?_ ?_) <;> first | rfl | exact congrArg Sum.inl (by first | rfl | omega | omega))
    refine AW.iload_n (pc' := 77) dX12_whichOf_76 rfl ?_
    refine AW.iret dX12_whichOf_77 ?_ ?_
    all_goals first | rfl | exact congrArg (fun z : Int => (some (vI z) : Option AV)) (b2_t (by omega)) | exact congrArg (fun z : Int => (some (vI z) : Option AV)) (b2_f (by omega)) | ((repeat' split) <;> first | rfl | omega) | (refine congrArg (fun z : Int => (some (vI z) : Option AV)) ?_; (repeat' split) <;> first | rfl | omega)
  · refine AW.iconst (pc' := 10) dX12_whichOf_9 ?_
    refine AW.iret dX12_whichOf_10 ?_ ?_
    all_goals first | rfl | exact congrArg (fun z : Int => (some (vI z) : Option AV)) (b2_t (by omega)) | exact congrArg (fun z : Int => (some (vI z) : Option AV)) (b2_f (by omega)) | ((repeat' split) <;> first | rfl | omega) | (refine congrArg (fun z : Int => (some (vI z) : Option AV)) ?_; (repeat' split) <;> first | rfl | omega)
set_option maxRecDepth 100000 in
set_option maxHeartbeats 4000000 in
theorem lp_X7_whichInShoe {K : KT} {X : XT} {dep : Nat} {h : Hp} {a : Int} (hI : IXa h) (hQ : PO (h 12 10) (h 18)) (q0 : 0 ≤ a ∧ a < h 12 10) (hd : 1 ≤ dep) : ∀ (n k : Nat) (acc : Int), (k : Int) + n = h 12 10 → 0 ≤ acc → acc ≤ k → AW K X RX7 cX7_whichInShoe 5 (some .int) dep 81 [some (vR 12), some (vI (a)), some (vI (wiF (h 13) (h 17) (h 18) a n k acc)), none, none] [] h → AW K X RX7 cX7_whichInShoe 5 (some .int) dep 14 [some (vR 12), some (vI (a)), some (vI (acc)), some (vI ((k : Int))), none] [] h := by
  have g6 := hI.2.2.2.1
  have g7 := hI.2.2.2.2.1
  have g8 := hI.2.1.2.1
  intro n
  induction n with
  | zero =>
    intro k acc hk i0 i1 kk
    refine AW.iload_n (pc' := 15) dX7_whichInShoe_14 rfl ?_
    refine AW.aload_n (pc' := 16) dX7_whichInShoe_15 rfl ?_
    refine AW.getI (pc' := 19) dX7_whichInShoe_16 ly_12 fX7_44 rfl (fun r16 => ?_)
    refine AW.icmp_ge (tgt := 81) (pc' := 22) dX7_whichInShoe_19 (by first | assumption | omega | (constructor <;> omega) | (simp only [Int.toNat_natCast]; omega) | exact b2_in _) (by first | assumption | omega | (constructor <;> omega) | (simp only [Int.toNat_natCast]; omega) | exact b2_in _) (fun c19 => ?_) (fun c19 => ?_)
    · exact AW.weak kk (by (repeat' first | exact LSub.e | refine LSub.n ?_ | refine LSub.c ?_ ?_) <;> first | rfl | exact congrArg Sum.inl (by first | rfl | omega | omega))
    · omega
  | succ n ih =>
    intro k acc hk i0 i1 kk
    have hkr : (k : Int) < h 12 10 := by omega
    have o1 := hQ k (by omega)
    refine AW.iload_n (pc' := 15) dX7_whichInShoe_14 rfl ?_
    refine AW.aload_n (pc' := 16) dX7_whichInShoe_15 rfl ?_
    refine AW.getI (pc' := 19) dX7_whichInShoe_16 ly_12 fX7_44 rfl (fun r16 => ?_)
    refine AW.icmp_ge (tgt := 81) (pc' := 22) dX7_whichInShoe_19 (by first | assumption | omega | (constructor <;> omega) | (simp only [Int.toNat_natCast]; omega) | exact b2_in _) (by first | assumption | omega | (constructor <;> omega) | (simp only [Int.toNat_natCast]; omega) | exact b2_in _) (fun c19 => ?_) (fun c19 => ?_)
    · omega
    · refine AW.aload_n (pc' := 23) dX7_whichInShoe_22 rfl ?_
      refine AW.getR (pc' := 26) dX7_whichInShoe_23 ly_12 fX7_27 rfl ?_
      refine AW.iload_n (pc' := 27) dX7_whichInShoe_26 rfl ?_
      first | refine AW.ialdN (pc' := 28) dX7_whichInShoe_27 ly_18 (by first | assumption | omega | (constructor <;> omega) | (simp only [Int.toNat_natCast]; omega) | exact b2_in _) (by decide) (fun r27 => ?_) | refine AW.iald (pc' := 28) dX7_whichInShoe_27 ly_18 (by first | assumption | omega | (constructor <;> omega) | (simp only [Int.toNat_natCast]; omega) | exact b2_in _) (by first | assumption | omega | (constructor <;> omega) | (simp only [Int.toNat_natCast]; omega) | exact b2_in _) (by decide) (fun r27 => ?_)
      refine AW.iload_n (pc' := 29) dX7_whichInShoe_28 rfl ?_
      refine AW.icmp_eq (tgt := 81) (pc' := 32) dX7_whichInShoe_29 (by first | assumption | omega | (constructor <;> omega) | (simp only [Int.toNat_natCast]; omega) | exact b2_in _) (by first | assumption | omega | (constructor <;> omega) | (simp only [Int.toNat_natCast]; omega) | exact b2_in _) (fun c29 => ?_) (fun c29 => ?_)
      · exact AW.weak kk (by (repeat' first | exact LSub.e | refine LSub.n ?_ | refine LSub.c ?_ ?_) <;> first | rfl | exact congrArg Sum.inl (by first | rfl | omega | (unfold wiF; rw [if_pos c29])))
      · refine AW.aload_n (pc' := 33) dX7_whichInShoe_32 rfl ?_
        refine AW.getR (pc' := 36) dX7_whichInShoe_33 ly_12 fX7_27 rfl ?_
        refine AW.iload_n (pc' := 37) dX7_whichInShoe_36 rfl ?_
        first | refine AW.ialdN (pc' := 38) dX7_whichInShoe_37 ly_18 (by first | assumption | omega | (constructor <;> omega) | (simp only [Int.toNat_natCast]; omega) | exact b2_in _) (by decide) (fun r37 => ?_) | refine AW.iald (pc' := 38) dX7_whichInShoe_37 ly_18 (by first | assumption | omega | (constructor <;> omega) | (simp only [Int.toNat_natCast]; omega) | exact b2_in _) (by first | assumption | omega | (constructor <;> omega) | (simp only [Int.toNat_natCast]; omega) | exact b2_in _) (by decide) (fun r37 => ?_)
        refine AW.istore4 (pc' := 40) dX7_whichInShoe_38 (by decide) rfl ?_
        refine AW.aload_n (pc' := 41) dX7_whichInShoe_40 rfl ?_
        refine AW.getR (pc' := 44) dX7_whichInShoe_41 ly_12 fX7_9 rfl ?_
        refine AW.iload (pc' := 46) dX7_whichInShoe_44 rfl ?_
        first | refine AW.ialdN (pc' := 47) dX7_whichInShoe_46 ly_13 (by first | assumption | omega | (constructor <;> omega) | (simp only [Int.toNat_natCast]; omega) | exact b2_in _) (by decide) (fun r46 => ?_) | refine AW.iald (pc' := 47) dX7_whichInShoe_46 ly_13 (by first | assumption | omega | (constructor <;> omega) | (simp only [Int.toNat_natCast]; omega) | exact b2_in _) (by first | assumption | omega | (constructor <;> omega) | (simp only [Int.toNat_natCast]; omega) | exact b2_in _) (by decide) (fun r46 => ?_)
        refine AW.aload_n (pc' := 48) dX7_whichInShoe_47 rfl ?_
        refine AW.getR (pc' := 51) dX7_whichInShoe_48 ly_12 fX7_9 rfl ?_
        refine AW.iload_n (pc' := 52) dX7_whichInShoe_51 rfl ?_
        first | refine AW.ialdN (pc' := 53) dX7_whichInShoe_52 ly_13 (by first | assumption | omega | (constructor <;> omega) | (simp only [Int.toNat_natCast]; omega) | exact b2_in _) (by decide) (fun r52 => ?_) | refine AW.iald (pc' := 53) dX7_whichInShoe_52 ly_13 (by first | assumption | omega | (constructor <;> omega) | (simp only [Int.toNat_natCast]; omega) | exact b2_in _) (by first | assumption | omega | (constructor <;> omega) | (simp only [Int.toNat_natCast]; omega) | exact b2_in _) (by decide) (fun r52 => ?_)
        refine AW.icmp_ne (tgt := 75) (pc' := 56) dX7_whichInShoe_53 (by first | assumption | omega | (constructor <;> omega) | (simp only [Int.toNat_natCast]; omega) | exact b2_in _) (by first | assumption | omega | (constructor <;> omega) | (simp only [Int.toNat_natCast]; omega) | exact b2_in _) (fun c53 => ?_) (fun c53 => ?_)
        · refine AW.iinc3 (pc' := 78) dX7_whichInShoe_75 (by decide) rfl ?_
          refine AW.goto (tgt := 14) dX7_whichInShoe_78 ?_
          have z : wiF (h 13) (h 17) (h 18) a (n + 1) k acc = wiF (h 13) (h 17) (h 18) a n (k + 1) acc := by
            conv => lhs; unfold wiF
            rw [if_neg c29, if_neg (fun y => c53 y.1)]
          rw [z] at kk
          exact AW.weak (ih (k + 1) acc (by omega) (by omega) (by omega) kk) (by (repeat' first | exact LSub.e | refine LSub.n ?_ | refine LSub.c ?_ ?_) <;> first | rfl | exact congrArg Sum.inl (by first | rfl | omega | (push_cast; omega)))
        · refine AW.aload_n (pc' := 57) dX7_whichInShoe_56 rfl ?_
          refine AW.getR (pc' := 60) dX7_whichInShoe_57 ly_12 fX7_24 rfl ?_
          refine AW.iload (pc' := 62) dX7_whichInShoe_60 rfl ?_
          first | refine AW.ialdN (pc' := 63) dX7_whichInShoe_62 ly_17 (by first | assumption | omega | (constructor <;> omega) | (simp only [Int.toNat_natCast]; omega) | exact b2_in _) (by decide) (fun r62 => ?_) | refine AW.iald (pc' := 63) dX7_whichInShoe_62 ly_17 (by first | assumption | omega | (constructor <;> omega) | (simp only [Int.toNat_natCast]; omega) | exact b2_in _) (by first | assumption | omega | (constructor <;> omega) | (simp only [Int.toNat_natCast]; omega) | exact b2_in _) (by decide) (fun r62 => ?_)
          refine AW.aload_n (pc' := 64) dX7_whichInShoe_63 rfl ?_
          refine AW.getR (pc' := 67) dX7_whichInShoe_64 ly_12 fX7_24 rfl ?_
          refine AW.iload_n (pc' := 68) dX7_whichInShoe_67 rfl ?_
          first | refine AW.ialdN (pc' := 69) dX7_whichInShoe_68 ly_17 (by first | assumption | omega | (constructor <;> omega) | (simp only [Int.toNat_natCast]; omega) | exact b2_in _) (by decide) (fun r68 => ?_) | refine AW.iald (pc' := 69) dX7_whichInShoe_68 ly_17 (by first | assumption | omega | (constructor <;> omega) | (simp only [Int.toNat_natCast]; omega) | exact b2_in _) (by first | assumption | omega | (constructor <;> omega) | (simp only [Int.toNat_natCast]; omega) | exact b2_in _) (by decide) (fun r68 => ?_)
          refine AW.icmp_ne (tgt := 75) (pc' := 72) dX7_whichInShoe_69 (by first | assumption | omega | (constructor <;> omega) | (simp only [Int.toNat_natCast]; omega) | exact b2_in _) (by first | assumption | omega | (constructor <;> omega) | (simp only [Int.toNat_natCast]; omega) | exact b2_in _) (fun c69 => ?_) (fun c69 => ?_)
          · refine AW.iinc3 (pc' := 78) dX7_whichInShoe_75 (by decide) rfl ?_
            refine AW.goto (tgt := 14) dX7_whichInShoe_78 ?_
            have z : wiF (h 13) (h 17) (h 18) a (n + 1) k acc = wiF (h 13) (h 17) (h 18) a n (k + 1) acc := by
              conv => lhs; unfold wiF
              rw [if_neg c29, if_neg (fun y => c69 y.2)]
            rw [z] at kk
            exact AW.weak (ih (k + 1) acc (by omega) (by omega) (by omega) kk) (by (repeat' first | exact LSub.e | refine LSub.n ?_ | refine LSub.c ?_ ?_) <;> first | rfl | exact congrArg Sum.inl (by first | rfl | omega | (push_cast; omega)))
          · refine AW.iinc2 (pc' := 75) dX7_whichInShoe_72 (by decide) rfl ?_
            refine AW.iinc3 (pc' := 78) dX7_whichInShoe_75 (by decide) rfl ?_
            refine AW.goto (tgt := 14) dX7_whichInShoe_78 ?_
            have z : wiF (h 13) (h 17) (h 18) a (n + 1) k acc = wiF (h 13) (h 17) (h 18) a n (k + 1) (acc + 1) := by
              conv => lhs; unfold wiF
              rw [if_neg c29, if_pos ⟨c53, c69⟩]
            rw [z] at kk
            exact AW.weak (ih (k + 1) (acc + 1) (by omega) (by omega) (by omega) kk) (by (repeat' first | exact LSub.e | refine LSub.n ?_ | refine LSub.c ?_ ?_) <;> first | rfl | exact congrArg Sum.inl (by first | rfl | omega | (push_cast; omega)))
set_option maxRecDepth 100000 in
set_option maxHeartbeats 4000000 in
theorem c_X7_whichInShoe {K : KT} {dep : Nat} {h : Hp} {a : Int} (hd : 2 ≤ dep) (hI : IXa h) (hQ : PO (h 12 10) (h 18)) (q0 : 0 ≤ a ∧ a < h 12 10) : AM K yX7_whichInShoe cX7_whichInShoe 5 (some .int) dep [vR 12, vI a] h (some (vI (if h 17 a.toNat < 0 then -1 else wiF (h 13) (h 17) (h 18) a (h 12 10).toNat 0 0))) (h) := by
  refine AM.of (own := RX7) (ls := [some (vR 12), some (vI a), none, none, none]) rfl (by decide +kernel) (by exact Nat.le_of_ble_eq_true rfl) rfl (fun hO => ?_)
  have g6 := hI.2.2.2.1
  have g7 := hI.2.2.2.2.1
  have g8 := hI.2.1.2.1
  have g5 := hI.2.2.2.2.2 a.toNat (by omega)
  refine AW.aload_n (pc' := 1) dX7_whichInShoe_0 rfl ?_
  refine AW.iload_n (pc' := 2) dX7_whichInShoe_1 rfl ?_
  refine AW.invV1 (pc' := 5) dX7_whichInShoe_2 mlX7_62 mX7_isSeen ly_12 rfl (c_X7_isSeen (dep := dep - 1) (by first | assumption | omega | (constructor <;> omega) | (simp only [Int.toNat_natCast]; omega) | exact b2_in _) (by first | assumption | omega | (constructor <;> omega) | (simp only [Int.toNat_natCast]; omega) | exact b2_in _)) ?_
  refine AW.ifb_ne (tgt := 10) (pc' := 8) dX7_whichInShoe_5 (fun c5 => ?_) (fun c5 => ?_)
  · refine AW.iconst (pc' := 11) dX7_whichInShoe_10 ?_
    refine AW.istore2n (pc' := 12) dX7_whichInShoe_11 (by decide) rfl ?_
    refine AW.iconst (pc' := 13) dX7_whichInShoe_12 ?_
    refine AW.istore3n (pc' := 14) dX7_whichInShoe_13 (by decide) rfl ?_
    refine AW.weak (lp_X7_whichInShoe hI hQ q0 (by omega) (h 12 10).toNat 0 0 (by omega) (by omega) (by omega) ?_) (by (repeat' first | exact LSub.e | refine LSub.n ?_ | refine LSub.c ?_ ?_) <;> first | rfl | exact congrArg Sum.inl (by first | rfl | omega | omega))
    refine AW.iload_n (pc' := 82) dX7_whichInShoe_81 rfl ?_
    refine AW.iret dX7_whichInShoe_82 ?_ ?_
    all_goals first | rfl | exact congrArg (fun z : Int => (some (vI z) : Option AV)) (b2_t (by omega)) | exact congrArg (fun z : Int => (some (vI z) : Option AV)) (b2_f (by omega)) | ((repeat' split) <;> first | rfl | omega) | (refine congrArg (fun z : Int => (some (vI z) : Option AV)) ?_; (repeat' split) <;> first | rfl | omega)
  · refine AW.iconst (pc' := 9) dX7_whichInShoe_8 ?_
    refine AW.iret dX7_whichInShoe_9 ?_ ?_
    all_goals first | rfl | exact congrArg (fun z : Int => (some (vI z) : Option AV)) (b2_t (by omega)) | exact congrArg (fun z : Int => (some (vI z) : Option AV)) (b2_f (by omega)) | ((repeat' split) <;> first | rfl | omega) | (refine congrArg (fun z : Int => (some (vI z) : Option AV)) ?_; (repeat' split) <;> first | rfl | omega)
set_option maxRecDepth 100000 in
set_option maxHeartbeats 4000000 in
theorem c_X12_of {K : KT} {dep : Nat} {h : Hp} {a b : Int} (hd : 2 ≤ dep) (hI : IMa h) (q1 : inI a) (q2 : inI b) : AM K yX12_of cX12_of 3 (some .int) dep [vR 57, vI a, vI b] h (some (vI (if ¬ (0 ≤ a ∧ a < h 57 16) then -2000000000 else if b = 0 then h 66 a.toNat else if b = 1 then h 67 a.toNat else if b = 2 then h 68 a.toNat else if b = 3 then h 69 a.toNat else if b = 4 then h 70 a.toNat else if b = 5 then lvl (h 69) (h 65) (h 67) a.toNat else if b = 6 then oldM (h 69) (h 70) (h 63) a.toNat else if b = 7 then (if h 70 a.toNat < 0 then -1 else whF (h 57 16) (h 66) (h 70) (h 68) a) else -2000000000))) (h) := by
  refine AM.of (own := RX12) (ls := [some (vR 57), some (vI a), some (vI b)]) rfl (by decide +kernel) (by exact Nat.le_of_ble_eq_true rfl) rfl (fun hO => ?_)
  have g6 := hI.2.2.2.1
  have g7 := hI.2.2.2.2.1
  have g8 := hI.2.1.2.1
  refine AW.aload_n (pc' := 1) dX12_of_0 rfl ?_
  refine AW.iload_n (pc' := 2) dX12_of_1 rfl ?_
  refine AW.invV1 (pc' := 5) dX12_of_2 mlX12_153 mX12_isRun ly_57 rfl (c_X12_isRun (dep := dep - 1) (by first | assumption | omega | (constructor <;> omega) | (simp only [Int.toNat_natCast]; omega) | exact b2_in _)) ?_
  refine AW.ifb_ne (tgt := 11) (pc' := 8) dX12_of_5 (fun c5 => ?_) (fun c5 => ?_)
  · refine AW.iload_n (pc' := 12) dX12_of_11 rfl ?_
    by_cases s12_0 : b = 0
    · refine AW.top s12_0 ?_
      refine AW.tableIn (tgt := 60) (off := 48) dX12_of_12 (by decide) (by decide) (by decide) rfl ?_
      refine AW.aload_n (pc' := 61) dX12_of_60 rfl ?_
      refine AW.getR (pc' := 64) dX12_of_61 ly_57 fX12_34 rfl ?_
      refine AW.iload_n (pc' := 65) dX12_of_64 rfl ?_
      first | refine AW.ialdN (pc' := 66) dX12_of_65 ly_66 (by first | assumption | omega | (constructor <;> omega) | (simp only [Int.toNat_natCast]; omega) | exact b2_in _) (by decide) (fun r65 => ?_) | refine AW.iald (pc' := 66) dX12_of_65 ly_66 (by first | assumption | omega | (constructor <;> omega) | (simp only [Int.toNat_natCast]; omega) | exact b2_in _) (by first | assumption | omega | (constructor <;> omega) | (simp only [Int.toNat_natCast]; omega) | exact b2_in _) (by decide) (fun r65 => ?_)
      refine AW.iret dX12_of_66 ?_ ?_
      · refine congrArg (fun z : Int => (some (vI z) : Option AV)) ?_
        (repeat' split) <;> first | rfl | omega | contradiction
      · rfl
    by_cases s12_1 : b = 1
    · refine AW.top s12_1 ?_
      refine AW.tableIn (tgt := 67) (off := 55) dX12_of_12 (by decide) (by decide) (by decide) rfl ?_
      refine AW.aload_n (pc' := 68) dX12_of_67 rfl ?_
      refine AW.getR (pc' := 71) dX12_of_68 ly_57 fX12_37 rfl ?_
      refine AW.iload_n (pc' := 72) dX12_of_71 rfl ?_
      first | refine AW.ialdN (pc' := 73) dX12_of_72 ly_67 (by first | assumption | omega | (constructor <;> omega) | (simp only [Int.toNat_natCast]; omega) | exact b2_in _) (by decide) (fun r72 => ?_) | refine AW.iald (pc' := 73) dX12_of_72 ly_67 (by first | assumption | omega | (constructor <;> omega) | (simp only [Int.toNat_natCast]; omega) | exact b2_in _) (by first | assumption | omega | (constructor <;> omega) | (simp only [Int.toNat_natCast]; omega) | exact b2_in _) (by decide) (fun r72 => ?_)
      refine AW.iret dX12_of_73 ?_ ?_
      · refine congrArg (fun z : Int => (some (vI z) : Option AV)) ?_
        (repeat' split) <;> first | rfl | omega | contradiction
      · rfl
    by_cases s12_2 : b = 2
    · refine AW.top s12_2 ?_
      refine AW.tableIn (tgt := 74) (off := 62) dX12_of_12 (by decide) (by decide) (by decide) rfl ?_
      refine AW.aload_n (pc' := 75) dX12_of_74 rfl ?_
      refine AW.getR (pc' := 78) dX12_of_75 ly_57 fX12_40 rfl ?_
      refine AW.iload_n (pc' := 79) dX12_of_78 rfl ?_
      first | refine AW.ialdN (pc' := 80) dX12_of_79 ly_68 (by first | assumption | omega | (constructor <;> omega) | (simp only [Int.toNat_natCast]; omega) | exact b2_in _) (by decide) (fun r79 => ?_) | refine AW.iald (pc' := 80) dX12_of_79 ly_68 (by first | assumption | omega | (constructor <;> omega) | (simp only [Int.toNat_natCast]; omega) | exact b2_in _) (by first | assumption | omega | (constructor <;> omega) | (simp only [Int.toNat_natCast]; omega) | exact b2_in _) (by decide) (fun r79 => ?_)
      refine AW.iret dX12_of_80 ?_ ?_
      · refine congrArg (fun z : Int => (some (vI z) : Option AV)) ?_
        (repeat' split) <;> first | rfl | omega | contradiction
      · rfl
    by_cases s12_3 : b = 3
    · refine AW.top s12_3 ?_
      refine AW.tableIn (tgt := 81) (off := 69) dX12_of_12 (by decide) (by decide) (by decide) rfl ?_
      refine AW.aload_n (pc' := 82) dX12_of_81 rfl ?_
      refine AW.getR (pc' := 85) dX12_of_82 ly_57 fX12_43 rfl ?_
      refine AW.iload_n (pc' := 86) dX12_of_85 rfl ?_
      first | refine AW.ialdN (pc' := 87) dX12_of_86 ly_69 (by first | assumption | omega | (constructor <;> omega) | (simp only [Int.toNat_natCast]; omega) | exact b2_in _) (by decide) (fun r86 => ?_) | refine AW.iald (pc' := 87) dX12_of_86 ly_69 (by first | assumption | omega | (constructor <;> omega) | (simp only [Int.toNat_natCast]; omega) | exact b2_in _) (by first | assumption | omega | (constructor <;> omega) | (simp only [Int.toNat_natCast]; omega) | exact b2_in _) (by decide) (fun r86 => ?_)
      refine AW.iret dX12_of_87 ?_ ?_
      · refine congrArg (fun z : Int => (some (vI z) : Option AV)) ?_
        (repeat' split) <;> first | rfl | omega | contradiction
      · rfl
    by_cases s12_4 : b = 4
    · refine AW.top s12_4 ?_
      refine AW.tableIn (tgt := 88) (off := 76) dX12_of_12 (by decide) (by decide) (by decide) rfl ?_
      refine AW.aload_n (pc' := 89) dX12_of_88 rfl ?_
      refine AW.getR (pc' := 92) dX12_of_89 ly_57 fX12_46 rfl ?_
      refine AW.iload_n (pc' := 93) dX12_of_92 rfl ?_
      first | refine AW.ialdN (pc' := 94) dX12_of_93 ly_70 (by first | assumption | omega | (constructor <;> omega) | (simp only [Int.toNat_natCast]; omega) | exact b2_in _) (by decide) (fun r93 => ?_) | refine AW.iald (pc' := 94) dX12_of_93 ly_70 (by first | assumption | omega | (constructor <;> omega) | (simp only [Int.toNat_natCast]; omega) | exact b2_in _) (by first | assumption | omega | (constructor <;> omega) | (simp only [Int.toNat_natCast]; omega) | exact b2_in _) (by decide) (fun r93 => ?_)
      refine AW.iret dX12_of_94 ?_ ?_
      · refine congrArg (fun z : Int => (some (vI z) : Option AV)) ?_
        (repeat' split) <;> first | rfl | omega | contradiction
      · rfl
    by_cases s12_5 : b = 5
    · refine AW.top s12_5 ?_
      refine AW.tableIn (tgt := 95) (off := 83) dX12_of_12 (by decide) (by decide) (by decide) rfl ?_
      refine AW.aload_n (pc' := 96) dX12_of_95 rfl ?_
      refine AW.iload_n (pc' := 97) dX12_of_96 rfl ?_
      refine AW.invV1 (pc' := 100) dX12_of_97 mlX12_157 mX12_level ly_57 rfl (c_X12_level (dep := dep - 1) (by first | assumption | omega | (constructor <;> omega) | (simp only [Int.toNat_natCast]; omega) | exact b2_in _) (by first | assumption | omega | (constructor <;> omega) | (simp only [Int.toNat_natCast]; omega) | exact b2_in _)) ?_
      refine AW.iret dX12_of_100 ?_ ?_
      · refine congrArg (fun z : Int => (some (vI z) : Option AV)) ?_
        (repeat' split) <;> first | rfl | omega | contradiction
      · rfl
    by_cases s12_6 : b = 6
    · refine AW.top s12_6 ?_
      refine AW.tableIn (tgt := 101) (off := 89) dX12_of_12 (by decide) (by decide) (by decide) rfl ?_
      refine AW.aload_n (pc' := 102) dX12_of_101 rfl ?_
      refine AW.iload_n (pc' := 103) dX12_of_102 rfl ?_
      refine AW.invV1 (pc' := 106) dX12_of_103 mlX12_161 mX12_oldMinutes ly_57 rfl (c_X12_oldMinutes (dep := dep - 1) (by first | assumption | omega | (constructor <;> omega) | (simp only [Int.toNat_natCast]; omega) | exact b2_in _) (by first | assumption | omega | (constructor <;> omega) | (simp only [Int.toNat_natCast]; omega) | exact b2_in _)) ?_
      refine AW.iret dX12_of_106 ?_ ?_
      · refine congrArg (fun z : Int => (some (vI z) : Option AV)) ?_
        (repeat' split) <;> first | rfl | omega | contradiction
      · rfl
    by_cases s12_7 : b = 7
    · refine AW.top s12_7 ?_
      refine AW.tableIn (tgt := 107) (off := 95) dX12_of_12 (by decide) (by decide) (by decide) rfl ?_
      refine AW.aload_n (pc' := 108) dX12_of_107 rfl ?_
      refine AW.iload_n (pc' := 109) dX12_of_108 rfl ?_
      refine AW.invV1 (pc' := 112) dX12_of_109 mlX12_164 mX12_whichOf ly_57 rfl (c_X12_whichOf (dep := dep - 1) (by first | assumption | omega | (constructor <;> omega) | (simp only [Int.toNat_natCast]; omega) | exact b2_in _) (by first | assumption | omega | (constructor <;> omega) | (simp only [Int.toNat_natCast]; omega) | exact b2_in _) (by first | assumption | omega | (constructor <;> omega) | (simp only [Int.toNat_natCast]; omega) | exact b2_in _)) ?_
      refine AW.iret dX12_of_112 ?_ ?_
      · refine congrArg (fun z : Int => (some (vI z) : Option AV)) ?_
        (repeat' split) <;> first | rfl | omega | contradiction
      · rfl
    refine AW.tableOut (tgt := 113) dX12_of_12 (by first | assumption | omega | (constructor <;> omega) | (simp only [Int.toNat_natCast]; omega) | exact b2_in _) (by omega) ?_
    refine AW.ldc (v := -2000000000) (pc' := 115) dX12_of_113 kX12_156 ?_
    refine AW.iret dX12_of_115 ?_ ?_
    · refine congrArg (fun z : Int => (some (vI z) : Option AV)) ?_
      (repeat' split) <;> first | rfl | omega | contradiction
    · rfl
  · refine AW.ldc (v := -2000000000) (pc' := 10) dX12_of_8 kX12_156 ?_
    refine AW.iret dX12_of_10 ?_ ?_
    · refine congrArg (fun z : Int => (some (vI z) : Option AV)) ?_
      (repeat' split) <;> first | rfl | omega | contradiction
    · rfl
set_option maxRecDepth 100000 in
set_option maxHeartbeats 4000000 in
theorem c_X11_of {K : KT} {dep : Nat} {h : Hp} {a b : Int} (hd : 3 ≤ dep) (hI : IXa h) (hQ : PO (h 12 10) (h 18)) (q2 : inI a) (q3 : inI b) : AM K yX11_of cX11_of 3 (some .int) dep [vR 0, vI a, vI b] h (some (vI (if ¬ (0 ≤ a ∧ a < h 12 10) then -2000000000 else if b = 0 then h 13 a.toNat else if b = 1 then h 14 a.toNat else if b = 2 then h 15 a.toNat else if b = 3 then h 16 a.toNat else if b = 4 then h 17 a.toNat else if b = 5 then lvl (h 16) (h 11) (h 14) a.toNat else if b = 6 then oldM (h 16) (h 17) (h 8) a.toNat else if b = 7 then (if h 17 a.toNat < 0 then -1 else wiF (h 13) (h 17) (h 18) a (h 12 10).toNat 0 0) else -2000000000))) (h) := by
  refine AM.of (own := RX11) (ls := [some (vR 0), some (vI a), some (vI b)]) rfl (by decide +kernel) (by exact Nat.le_of_ble_eq_true rfl) rfl (fun hO => ?_)
  have g6 := hI.2.2.2.1
  have g7 := hI.2.2.2.2.1
  have g8 := hI.2.1.2.1
  refine AW.aload_n (pc' := 1) dX11_of_0 rfl ?_
  refine AW.getR (pc' := 4) dX11_of_1 ly_0 fX11_35 rfl ?_
  refine AW.iload_n (pc' := 5) dX11_of_4 rfl ?_
  refine AW.invV1 (pc' := 8) dX11_of_5 mlX11_135 mX7_has ly_12 rfl (c_X7_has (dep := dep - 1) (by first | assumption | omega | (constructor <;> omega) | (simp only [Int.toNat_natCast]; omega) | exact b2_in _)) ?_
  refine AW.ifb_ne (tgt := 14) (pc' := 11) dX11_of_8 (fun c8 => ?_) (fun c8 => ?_)
  · refine AW.iload_n (pc' := 15) dX11_of_14 rfl ?_
    by_cases s15_0 : b = 0
    · refine AW.top s15_0 ?_
      refine AW.tableIn (tgt := 60) (off := 45) dX11_of_15 (by decide) (by decide) (by decide) rfl ?_
      refine AW.aload_n (pc' := 61) dX11_of_60 rfl ?_
      refine AW.getR (pc' := 64) dX11_of_61 ly_0 fX11_35 rfl ?_
      refine AW.getR (pc' := 67) dX11_of_64 ly_12 fX11_137 rfl ?_
      refine AW.iload_n (pc' := 68) dX11_of_67 rfl ?_
      first | refine AW.ialdN (pc' := 69) dX11_of_68 ly_13 (by first | assumption | omega | (constructor <;> omega) | (simp only [Int.toNat_natCast]; omega) | exact b2_in _) (by decide) (fun r68 => ?_) | refine AW.iald (pc' := 69) dX11_of_68 ly_13 (by first | assumption | omega | (constructor <;> omega) | (simp only [Int.toNat_natCast]; omega) | exact b2_in _) (by first | assumption | omega | (constructor <;> omega) | (simp only [Int.toNat_natCast]; omega) | exact b2_in _) (by decide) (fun r68 => ?_)
      refine AW.iret dX11_of_69 ?_ ?_
      · refine congrArg (fun z : Int => (some (vI z) : Option AV)) ?_
        (repeat' split) <;> first | rfl | omega | contradiction
      · rfl
    by_cases s15_1 : b = 1
    · refine AW.top s15_1 ?_
      refine AW.tableIn (tgt := 70) (off := 55) dX11_of_15 (by decide) (by decide) (by decide) rfl ?_
      refine AW.aload_n (pc' := 71) dX11_of_70 rfl ?_
      refine AW.getR (pc' := 74) dX11_of_71 ly_0 fX11_35 rfl ?_
      refine AW.getR (pc' := 77) dX11_of_74 ly_12 fX11_139 rfl ?_
      refine AW.iload_n (pc' := 78) dX11_of_77 rfl ?_
      first | refine AW.ialdN (pc' := 79) dX11_of_78 ly_14 (by first | assumption | omega | (constructor <;> omega) | (simp only [Int.toNat_natCast]; omega) | exact b2_in _) (by decide) (fun r78 => ?_) | refine AW.iald (pc' := 79) dX11_of_78 ly_14 (by first | assumption | omega | (constructor <;> omega) | (simp only [Int.toNat_natCast]; omega) | exact b2_in _) (by first | assumption | omega | (constructor <;> omega) | (simp only [Int.toNat_natCast]; omega) | exact b2_in _) (by decide) (fun r78 => ?_)
      refine AW.iret dX11_of_79 ?_ ?_
      · refine congrArg (fun z : Int => (some (vI z) : Option AV)) ?_
        (repeat' split) <;> first | rfl | omega | contradiction
      · rfl
    by_cases s15_2 : b = 2
    · refine AW.top s15_2 ?_
      refine AW.tableIn (tgt := 80) (off := 65) dX11_of_15 (by decide) (by decide) (by decide) rfl ?_
      refine AW.aload_n (pc' := 81) dX11_of_80 rfl ?_
      refine AW.getR (pc' := 84) dX11_of_81 ly_0 fX11_35 rfl ?_
      refine AW.getR (pc' := 87) dX11_of_84 ly_12 fX11_141 rfl ?_
      refine AW.iload_n (pc' := 88) dX11_of_87 rfl ?_
      first | refine AW.ialdN (pc' := 89) dX11_of_88 ly_15 (by first | assumption | omega | (constructor <;> omega) | (simp only [Int.toNat_natCast]; omega) | exact b2_in _) (by decide) (fun r88 => ?_) | refine AW.iald (pc' := 89) dX11_of_88 ly_15 (by first | assumption | omega | (constructor <;> omega) | (simp only [Int.toNat_natCast]; omega) | exact b2_in _) (by first | assumption | omega | (constructor <;> omega) | (simp only [Int.toNat_natCast]; omega) | exact b2_in _) (by decide) (fun r88 => ?_)
      refine AW.iret dX11_of_89 ?_ ?_
      · refine congrArg (fun z : Int => (some (vI z) : Option AV)) ?_
        (repeat' split) <;> first | rfl | omega | contradiction
      · rfl
    by_cases s15_3 : b = 3
    · refine AW.top s15_3 ?_
      refine AW.tableIn (tgt := 90) (off := 75) dX11_of_15 (by decide) (by decide) (by decide) rfl ?_
      refine AW.aload_n (pc' := 91) dX11_of_90 rfl ?_
      refine AW.getR (pc' := 94) dX11_of_91 ly_0 fX11_35 rfl ?_
      refine AW.getR (pc' := 97) dX11_of_94 ly_12 fX11_144 rfl ?_
      refine AW.iload_n (pc' := 98) dX11_of_97 rfl ?_
      first | refine AW.ialdN (pc' := 99) dX11_of_98 ly_16 (by first | assumption | omega | (constructor <;> omega) | (simp only [Int.toNat_natCast]; omega) | exact b2_in _) (by decide) (fun r98 => ?_) | refine AW.iald (pc' := 99) dX11_of_98 ly_16 (by first | assumption | omega | (constructor <;> omega) | (simp only [Int.toNat_natCast]; omega) | exact b2_in _) (by first | assumption | omega | (constructor <;> omega) | (simp only [Int.toNat_natCast]; omega) | exact b2_in _) (by decide) (fun r98 => ?_)
      refine AW.iret dX11_of_99 ?_ ?_
      · refine congrArg (fun z : Int => (some (vI z) : Option AV)) ?_
        (repeat' split) <;> first | rfl | omega | contradiction
      · rfl
    by_cases s15_4 : b = 4
    · refine AW.top s15_4 ?_
      refine AW.tableIn (tgt := 100) (off := 85) dX11_of_15 (by decide) (by decide) (by decide) rfl ?_
      refine AW.aload_n (pc' := 101) dX11_of_100 rfl ?_
      refine AW.getR (pc' := 104) dX11_of_101 ly_0 fX11_35 rfl ?_
      refine AW.getR (pc' := 107) dX11_of_104 ly_12 fX11_147 rfl ?_
      refine AW.iload_n (pc' := 108) dX11_of_107 rfl ?_
      first | refine AW.ialdN (pc' := 109) dX11_of_108 ly_17 (by first | assumption | omega | (constructor <;> omega) | (simp only [Int.toNat_natCast]; omega) | exact b2_in _) (by decide) (fun r108 => ?_) | refine AW.iald (pc' := 109) dX11_of_108 ly_17 (by first | assumption | omega | (constructor <;> omega) | (simp only [Int.toNat_natCast]; omega) | exact b2_in _) (by first | assumption | omega | (constructor <;> omega) | (simp only [Int.toNat_natCast]; omega) | exact b2_in _) (by decide) (fun r108 => ?_)
      refine AW.iret dX11_of_109 ?_ ?_
      · refine congrArg (fun z : Int => (some (vI z) : Option AV)) ?_
        (repeat' split) <;> first | rfl | omega | contradiction
      · rfl
    by_cases s15_5 : b = 5
    · refine AW.top s15_5 ?_
      refine AW.tableIn (tgt := 110) (off := 95) dX11_of_15 (by decide) (by decide) (by decide) rfl ?_
      refine AW.aload_n (pc' := 111) dX11_of_110 rfl ?_
      refine AW.getR (pc' := 114) dX11_of_111 ly_0 fX11_35 rfl ?_
      refine AW.iload_n (pc' := 115) dX11_of_114 rfl ?_
      refine AW.invV1 (pc' := 118) dX11_of_115 mlX11_149 mX7_level ly_12 rfl (c_X7_level (dep := dep - 1) (by first | assumption | omega | (constructor <;> omega) | (simp only [Int.toNat_natCast]; omega) | exact b2_in _) (by first | assumption | omega | (constructor <;> omega) | (simp only [Int.toNat_natCast]; omega) | exact b2_in _) (by first | assumption | omega | (constructor <;> omega) | (simp only [Int.toNat_natCast]; omega) | exact b2_in _)) ?_
      refine AW.iret dX11_of_118 ?_ ?_
      · refine congrArg (fun z : Int => (some (vI z) : Option AV)) ?_
        (repeat' split) <;> first | rfl | omega | contradiction
      · rfl
    by_cases s15_6 : b = 6
    · refine AW.top s15_6 ?_
      refine AW.tableIn (tgt := 119) (off := 104) dX11_of_15 (by decide) (by decide) (by decide) rfl ?_
      refine AW.aload_n (pc' := 120) dX11_of_119 rfl ?_
      refine AW.getR (pc' := 123) dX11_of_120 ly_0 fX11_35 rfl ?_
      refine AW.iload_n (pc' := 124) dX11_of_123 rfl ?_
      refine AW.invV1 (pc' := 127) dX11_of_124 mlX11_152 mX7_oldMinutes ly_12 rfl (c_X7_oldMinutes (dep := dep - 1) (by first | assumption | omega | (constructor <;> omega) | (simp only [Int.toNat_natCast]; omega) | exact b2_in _) (by first | assumption | omega | (constructor <;> omega) | (simp only [Int.toNat_natCast]; omega) | exact b2_in _) (by first | assumption | omega | (constructor <;> omega) | (simp only [Int.toNat_natCast]; omega) | exact b2_in _)) ?_
      refine AW.iret dX11_of_127 ?_ ?_
      · refine congrArg (fun z : Int => (some (vI z) : Option AV)) ?_
        (repeat' split) <;> first | rfl | omega | contradiction
      · rfl
    by_cases s15_7 : b = 7
    · refine AW.top s15_7 ?_
      refine AW.tableIn (tgt := 128) (off := 113) dX11_of_15 (by decide) (by decide) (by decide) rfl ?_
      refine AW.aload_n (pc' := 129) dX11_of_128 rfl ?_
      refine AW.getR (pc' := 132) dX11_of_129 ly_0 fX11_35 rfl ?_
      refine AW.iload_n (pc' := 133) dX11_of_132 rfl ?_
      refine AW.invV1 (pc' := 136) dX11_of_133 mlX11_155 mX7_whichInShoe ly_12 rfl (c_X7_whichInShoe (dep := dep - 1) (by first | assumption | omega | (constructor <;> omega) | (simp only [Int.toNat_natCast]; omega) | exact b2_in _) (by first | assumption | omega | (constructor <;> omega) | (simp only [Int.toNat_natCast]; omega) | exact b2_in _) (by first | assumption | omega | (constructor <;> omega) | (simp only [Int.toNat_natCast]; omega) | exact b2_in _) (by first | assumption | omega | (constructor <;> omega) | (simp only [Int.toNat_natCast]; omega) | exact b2_in _)) ?_
      refine AW.iret dX11_of_136 ?_ ?_
      · refine congrArg (fun z : Int => (some (vI z) : Option AV)) ?_
        (repeat' split) <;> first | rfl | omega | contradiction
      · rfl
    refine AW.tableOut (tgt := 137) dX11_of_15 (by first | assumption | omega | (constructor <;> omega) | (simp only [Int.toNat_natCast]; omega) | exact b2_in _) (by omega) ?_
    refine AW.ldc (v := -2000000000) (pc' := 139) dX11_of_137 kX11_136 ?_
    refine AW.iret dX11_of_139 ?_ ?_
    · refine congrArg (fun z : Int => (some (vI z) : Option AV)) ?_
      (repeat' split) <;> first | rfl | omega | contradiction
    · rfl
  · refine AW.ldc (v := -2000000000) (pc' := 13) dX11_of_11 kX11_136 ?_
    refine AW.iret dX11_of_13 ?_ ?_
    · refine congrArg (fun z : Int => (some (vI z) : Option AV)) ?_
      (repeat' split) <;> first | rfl | omega | contradiction
    · rfl
set_option maxRecDepth 100000 in
set_option maxHeartbeats 4000000 in
theorem c_X12_dead {K : KT} {dep : Nat} {h : Hp} {a b : Int} (hd : 1 ≤ dep) (hI : IMa h) (q1 : inI a) (q2 : inI b) : AM K yX12_dead cX12_dead 3 (some .int) dep [vR 57, vI a, vI b] h (some (vI (if ¬ ((0 ≤ a ∧ a < h 57 14) ∧ 0 ≤ b ∧ b ≤ 99) then -2000000000 else if 10 ≤ b then 0 else (h 63 a.toNat * (10 - b)).tdiv 10))) (h) := by
  refine AM.of (own := RX12) (ls := [some (vR 57), some (vI a), some (vI b)]) rfl (by decide +kernel) (by exact Nat.le_of_ble_eq_true rfl) rfl (fun hO => ?_)
  have g6 := hI.2.2.2.1
  have g7 := hI.2.2.2.2.1
  have g8 := hI.2.1.2.1
  have mm : 0 ≤ a → a < h 57 14 → 0 ≤ b → b < 10 → -990 ≤ h 63 a.toNat * (10 - b) ∧ h 63 a.toNat * (10 - b) ≤ 990 := fun z1 z2 z3 z4 => by
    have g := hI.2.1.2.2 a.toNat (by omega)
    have := mul_in (a := h 63 a.toNat) (b := 10 - b) (A := 99) (B := 10) g.2.2.1 g.2.2.2.1 (by omega) (by omega) (by omega)
    omega
  refine AW.aload_n (pc' := 1) dX12_dead_0 rfl ?_
  refine AW.iload_n (pc' := 2) dX12_dead_1 rfl ?_
  refine AW.invV1 (pc' := 5) dX12_dead_2 mlX12_138 mX12_isShoe ly_57 rfl (c_X12_isShoe (dep := dep - 1) (by first | assumption | omega | (constructor <;> omega) | (simp only [Int.toNat_natCast]; omega) | exact b2_in _)) ?_
  refine AW.ifb_eq (tgt := 18) (pc' := 8) dX12_dead_5 (fun c5 => ?_) (fun c5 => ?_)
  · refine AW.ldc (v := -2000000000) (pc' := 20) dX12_dead_18 kX12_156 ?_
    refine AW.iret dX12_dead_20 ?_ ?_
    all_goals first | rfl | exact congrArg (fun z : Int => (some (vI z) : Option AV)) (b2_t (by omega)) | exact congrArg (fun z : Int => (some (vI z) : Option AV)) (b2_f (by omega)) | ((repeat' split) <;> first | rfl | omega) | (refine congrArg (fun z : Int => (some (vI z) : Option AV)) ?_; (repeat' split) <;> first | rfl | omega)
  · refine AW.iload_n (pc' := 9) dX12_dead_8 rfl ?_
    refine AW.iconst (pc' := 10) dX12_dead_9 ?_
    refine AW.bipush (pc' := 12) dX12_dead_10 (by decide) ?_
    refine AW.invS3 (pc' := 15) dX12_dead_12 mlX12_117 mX12_isIn (c_X12_isIn (dep := dep - 1) (by first | assumption | omega | (constructor <;> omega) | (simp only [Int.toNat_natCast]; omega) | exact b2_in _) (by first | assumption | omega | (constructor <;> omega) | (simp only [Int.toNat_natCast]; omega) | exact b2_in _) (by first | assumption | omega | (constructor <;> omega) | (simp only [Int.toNat_natCast]; omega) | exact b2_in _)) ?_
    refine AW.ifb_ne (tgt := 21) (pc' := 18) dX12_dead_15 (fun c15 => ?_) (fun c15 => ?_)
    · refine AW.iload_n (pc' := 22) dX12_dead_21 rfl ?_
      refine AW.bipush (pc' := 24) dX12_dead_22 (by decide) ?_
      refine AW.icmp_lt (tgt := 31) (pc' := 27) dX12_dead_24 (by first | assumption | omega | (constructor <;> omega) | (simp only [Int.toNat_natCast]; omega) | exact b2_in _) (by first | assumption | omega | (constructor <;> omega) | (simp only [Int.toNat_natCast]; omega) | exact b2_in _) (fun c24 => ?_) (fun c24 => ?_)
      · have mm1 := mm (by omega) (by omega) (by omega) (by omega)
        refine AW.aload_n (pc' := 32) dX12_dead_31 rfl ?_
        refine AW.getR (pc' := 35) dX12_dead_32 ly_57 fX12_25 rfl ?_
        refine AW.iload_n (pc' := 36) dX12_dead_35 rfl ?_
        first | refine AW.ialdN (pc' := 37) dX12_dead_36 ly_63 (by first | assumption | omega | (constructor <;> omega) | (simp only [Int.toNat_natCast]; omega) | exact b2_in _) (by decide) (fun r36 => ?_) | refine AW.iald (pc' := 37) dX12_dead_36 ly_63 (by first | assumption | omega | (constructor <;> omega) | (simp only [Int.toNat_natCast]; omega) | exact b2_in _) (by first | assumption | omega | (constructor <;> omega) | (simp only [Int.toNat_natCast]; omega) | exact b2_in _) (by decide) (fun r36 => ?_)
        refine AW.bipush (pc' := 39) dX12_dead_37 (by decide) ?_
        refine AW.iload_n (pc' := 40) dX12_dead_39 rfl ?_
        refine AW.isub (pc' := 41) dX12_dead_40 ?_
        refine AW.imul (pc' := 42) dX12_dead_41 ?_
        refine AW.bipush (pc' := 44) dX12_dead_42 (by decide) ?_
        refine AW.idiv (pc' := 45) dX12_dead_44 (by first | assumption | omega | (constructor <;> omega) | (simp only [Int.toNat_natCast]; omega) | exact b2_in _) (by first | assumption | omega | (constructor <;> omega) | (simp only [Int.toNat_natCast]; omega) | exact b2_in _) (by first | assumption | omega | (constructor <;> omega) | (simp only [Int.toNat_natCast]; omega) | exact b2_in _) ?_
        refine AW.iret dX12_dead_45 ?_ ?_
        all_goals first | rfl | exact congrArg (fun z : Int => (some (vI z) : Option AV)) (b2_t (by omega)) | exact congrArg (fun z : Int => (some (vI z) : Option AV)) (b2_f (by omega)) | ((repeat' split) <;> first | rfl | omega) | (refine congrArg (fun z : Int => (some (vI z) : Option AV)) ?_; (repeat' split) <;> first | rfl | omega)
      · refine AW.iconst (pc' := 28) dX12_dead_27 ?_
        refine AW.goto (tgt := 45) dX12_dead_28 ?_
        refine AW.iret dX12_dead_45 ?_ ?_
        all_goals first | rfl | exact congrArg (fun z : Int => (some (vI z) : Option AV)) (b2_t (by omega)) | exact congrArg (fun z : Int => (some (vI z) : Option AV)) (b2_f (by omega)) | ((repeat' split) <;> first | rfl | omega) | (refine congrArg (fun z : Int => (some (vI z) : Option AV)) ?_; (repeat' split) <;> first | rfl | omega)
    · refine AW.ldc (v := -2000000000) (pc' := 20) dX12_dead_18 kX12_156 ?_
      refine AW.iret dX12_dead_20 ?_ ?_
      all_goals first | rfl | exact congrArg (fun z : Int => (some (vI z) : Option AV)) (b2_t (by omega)) | exact congrArg (fun z : Int => (some (vI z) : Option AV)) (b2_f (by omega)) | ((repeat' split) <;> first | rfl | omega) | (refine congrArg (fun z : Int => (some (vI z) : Option AV)) ?_; (repeat' split) <;> first | rfl | omega)
set_option maxRecDepth 100000 in
set_option maxHeartbeats 4000000 in
theorem c_X11_dead {K : KT} {dep : Nat} {h : Hp} {a b : Int} (hd : 1 ≤ dep) (hI : IXa h) (q1 : inI a) (q2 : inI b) : AM K yX11_dead cX11_dead 3 (some .int) dep [vR 0, vI a, vI b] h (some (vI (if ¬ ((0 ≤ a ∧ a < h 6 3) ∧ 0 ≤ b ∧ b ≤ 99) then -2000000000 else if 10 ≤ b then 0 else (h 8 a.toNat * (10 - b)).tdiv 10))) (h) := by
  refine AM.of (own := RX11) (ls := [some (vR 0), some (vI a), some (vI b)]) rfl (by decide +kernel) (by exact Nat.le_of_ble_eq_true rfl) rfl (fun hO => ?_)
  have g6 := hI.2.2.2.1
  have g7 := hI.2.2.2.2.1
  have g8 := hI.2.1.2.1
  have mm : 0 ≤ a → a < h 6 3 → 0 ≤ b → b < 10 → -990 ≤ h 8 a.toNat * (10 - b) ∧ h 8 a.toNat * (10 - b) ≤ 990 := fun z1 z2 z3 z4 => by
    have g := hI.2.1.2.2 a.toNat (by omega)
    have := mul_in (a := h 8 a.toNat) (b := 10 - b) (A := 99) (B := 10) g.2.2.1 g.2.2.2.1 (by omega) (by omega) (by omega)
    omega
  refine AW.aload_n (pc' := 1) dX11_dead_0 rfl ?_
  refine AW.getR (pc' := 4) dX11_dead_1 ly_0 fX11_19 rfl ?_
  refine AW.iload_n (pc' := 5) dX11_dead_4 rfl ?_
  refine AW.invV1 (pc' := 8) dX11_dead_5 mlX11_134 mX9_has ly_6 rfl (c_X9_has (dep := dep - 1) (by first | assumption | omega | (constructor <;> omega) | (simp only [Int.toNat_natCast]; omega) | exact b2_in _)) ?_
  refine AW.ifb_eq (tgt := 21) (pc' := 11) dX11_dead_8 (fun c8 => ?_) (fun c8 => ?_)
  · refine AW.ldc (v := -2000000000) (pc' := 23) dX11_dead_21 kX11_136 ?_
    refine AW.iret dX11_dead_23 ?_ ?_
    all_goals first | rfl | exact congrArg (fun z : Int => (some (vI z) : Option AV)) (b2_t (by omega)) | exact congrArg (fun z : Int => (some (vI z) : Option AV)) (b2_f (by omega)) | ((repeat' split) <;> first | rfl | omega) | (refine congrArg (fun z : Int => (some (vI z) : Option AV)) ?_; (repeat' split) <;> first | rfl | omega)
  · refine AW.iload_n (pc' := 12) dX11_dead_11 rfl ?_
    refine AW.iconst (pc' := 13) dX11_dead_12 ?_
    refine AW.bipush (pc' := 15) dX11_dead_13 (by decide) ?_
    refine AW.invS3 (pc' := 18) dX11_dead_15 mlX11_89 mX11_within (c_X11_within (dep := dep - 1) (by first | assumption | omega | (constructor <;> omega) | (simp only [Int.toNat_natCast]; omega) | exact b2_in _) (by first | assumption | omega | (constructor <;> omega) | (simp only [Int.toNat_natCast]; omega) | exact b2_in _) (by first | assumption | omega | (constructor <;> omega) | (simp only [Int.toNat_natCast]; omega) | exact b2_in _)) ?_
    refine AW.ifb_ne (tgt := 24) (pc' := 21) dX11_dead_18 (fun c18 => ?_) (fun c18 => ?_)
    · refine AW.iload_n (pc' := 25) dX11_dead_24 rfl ?_
      refine AW.bipush (pc' := 27) dX11_dead_25 (by decide) ?_
      refine AW.icmp_lt (tgt := 34) (pc' := 30) dX11_dead_27 (by first | assumption | omega | (constructor <;> omega) | (simp only [Int.toNat_natCast]; omega) | exact b2_in _) (by first | assumption | omega | (constructor <;> omega) | (simp only [Int.toNat_natCast]; omega) | exact b2_in _) (fun c27 => ?_) (fun c27 => ?_)
      · have mm1 := mm (by omega) (by omega) (by omega) (by omega)
        refine AW.aload_n (pc' := 35) dX11_dead_34 rfl ?_
        refine AW.getR (pc' := 38) dX11_dead_35 ly_0 fX11_19 rfl ?_
        refine AW.getR (pc' := 41) dX11_dead_38 ly_6 fX11_191 rfl ?_
        refine AW.iload_n (pc' := 42) dX11_dead_41 rfl ?_
        first | refine AW.ialdN (pc' := 43) dX11_dead_42 ly_8 (by first | assumption | omega | (constructor <;> omega) | (simp only [Int.toNat_natCast]; omega) | exact b2_in _) (by decide) (fun r42 => ?_) | refine AW.iald (pc' := 43) dX11_dead_42 ly_8 (by first | assumption | omega | (constructor <;> omega) | (simp only [Int.toNat_natCast]; omega) | exact b2_in _) (by first | assumption | omega | (constructor <;> omega) | (simp only [Int.toNat_natCast]; omega) | exact b2_in _) (by decide) (fun r42 => ?_)
        refine AW.bipush (pc' := 45) dX11_dead_43 (by decide) ?_
        refine AW.iload_n (pc' := 46) dX11_dead_45 rfl ?_
        refine AW.isub (pc' := 47) dX11_dead_46 ?_
        refine AW.imul (pc' := 48) dX11_dead_47 ?_
        refine AW.bipush (pc' := 50) dX11_dead_48 (by decide) ?_
        refine AW.idiv (pc' := 51) dX11_dead_50 (by first | assumption | omega | (constructor <;> omega) | (simp only [Int.toNat_natCast]; omega) | exact b2_in _) (by first | assumption | omega | (constructor <;> omega) | (simp only [Int.toNat_natCast]; omega) | exact b2_in _) (by first | assumption | omega | (constructor <;> omega) | (simp only [Int.toNat_natCast]; omega) | exact b2_in _) ?_
        refine AW.iret dX11_dead_51 ?_ ?_
        all_goals first | rfl | exact congrArg (fun z : Int => (some (vI z) : Option AV)) (b2_t (by omega)) | exact congrArg (fun z : Int => (some (vI z) : Option AV)) (b2_f (by omega)) | ((repeat' split) <;> first | rfl | omega) | (refine congrArg (fun z : Int => (some (vI z) : Option AV)) ?_; (repeat' split) <;> first | rfl | omega)
      · refine AW.iconst (pc' := 31) dX11_dead_30 ?_
        refine AW.goto (tgt := 51) dX11_dead_31 ?_
        refine AW.iret dX11_dead_51 ?_ ?_
        all_goals first | rfl | exact congrArg (fun z : Int => (some (vI z) : Option AV)) (b2_t (by omega)) | exact congrArg (fun z : Int => (some (vI z) : Option AV)) (b2_f (by omega)) | ((repeat' split) <;> first | rfl | omega) | (refine congrArg (fun z : Int => (some (vI z) : Option AV)) ?_; (repeat' split) <;> first | rfl | omega)
    · refine AW.ldc (v := -2000000000) (pc' := 23) dX11_dead_21 kX11_136 ?_
      refine AW.iret dX11_dead_23 ?_ ?_
      all_goals first | rfl | exact congrArg (fun z : Int => (some (vI z) : Option AV)) (b2_t (by omega)) | exact congrArg (fun z : Int => (some (vI z) : Option AV)) (b2_f (by omega)) | ((repeat' split) <;> first | rfl | omega) | (refine congrArg (fun z : Int => (some (vI z) : Option AV)) ?_; (repeat' split) <;> first | rfl | omega)
set_option maxRecDepth 100000 in
set_option maxHeartbeats 4000000 in
theorem c_X12_trace {K : KT} {dep : Nat} {h : Hp} {a : Int}  (q0 : inI a) : AM K yX12_trace cX12_trace 2 (some .int) dep [vR 57, vI a] h (some (vI (if 0 ≤ a ∧ a < h 57 53 ∧ a < 24 then h 85 a.toNat else -1))) (h) := by
  refine AM.of (own := RX12) (ls := [some (vR 57), some (vI a)]) rfl (by decide +kernel) (by exact Nat.le_of_ble_eq_true rfl) rfl (fun hO => ?_)
  refine AW.iload_n (pc' := 1) dX12_trace_0 rfl ?_
  refine AW.if_lt (tgt := 27) (pc' := 4) dX12_trace_1 (by first | assumption | omega | (constructor <;> omega) | (simp only [Int.toNat_natCast]; omega) | exact b2_in _) (fun c1 => ?_) (fun c1 => ?_)
  · refine AW.iconst (pc' := 28) dX12_trace_27 ?_
    refine AW.iret dX12_trace_28 ?_ ?_
    all_goals first | rfl | exact congrArg (fun z : Int => (some (vI z) : Option AV)) (b2_t (by omega)) | exact congrArg (fun z : Int => (some (vI z) : Option AV)) (b2_f (by omega)) | ((repeat' split) <;> first | rfl | omega) | (refine congrArg (fun z : Int => (some (vI z) : Option AV)) ?_; (repeat' split) <;> first | rfl | omega)
  · refine AW.iload_n (pc' := 5) dX12_trace_4 rfl ?_
    refine AW.aload_n (pc' := 6) dX12_trace_5 rfl ?_
    refine AW.getI (pc' := 9) dX12_trace_6 ly_57 fX12_342 rfl (fun r6 => ?_)
    refine AW.icmp_ge (tgt := 27) (pc' := 12) dX12_trace_9 (by first | assumption | omega | (constructor <;> omega) | (simp only [Int.toNat_natCast]; omega) | exact b2_in _) (by first | assumption | omega | (constructor <;> omega) | (simp only [Int.toNat_natCast]; omega) | exact b2_in _) (fun c9 => ?_) (fun c9 => ?_)
    · refine AW.iconst (pc' := 28) dX12_trace_27 ?_
      refine AW.iret dX12_trace_28 ?_ ?_
      all_goals first | rfl | exact congrArg (fun z : Int => (some (vI z) : Option AV)) (b2_t (by omega)) | exact congrArg (fun z : Int => (some (vI z) : Option AV)) (b2_f (by omega)) | ((repeat' split) <;> first | rfl | omega) | (refine congrArg (fun z : Int => (some (vI z) : Option AV)) ?_; (repeat' split) <;> first | rfl | omega)
    · refine AW.iload_n (pc' := 13) dX12_trace_12 rfl ?_
      refine AW.bipush (pc' := 15) dX12_trace_13 (by decide) ?_
      refine AW.icmp_ge (tgt := 27) (pc' := 18) dX12_trace_15 (by first | assumption | omega | (constructor <;> omega) | (simp only [Int.toNat_natCast]; omega) | exact b2_in _) (by first | assumption | omega | (constructor <;> omega) | (simp only [Int.toNat_natCast]; omega) | exact b2_in _) (fun c15 => ?_) (fun c15 => ?_)
      · refine AW.iconst (pc' := 28) dX12_trace_27 ?_
        refine AW.iret dX12_trace_28 ?_ ?_
        all_goals first | rfl | exact congrArg (fun z : Int => (some (vI z) : Option AV)) (b2_t (by omega)) | exact congrArg (fun z : Int => (some (vI z) : Option AV)) (b2_f (by omega)) | ((repeat' split) <;> first | rfl | omega) | (refine congrArg (fun z : Int => (some (vI z) : Option AV)) ?_; (repeat' split) <;> first | rfl | omega)
      · refine AW.aload_n (pc' := 19) dX12_trace_18 rfl ?_
        refine AW.getR (pc' := 22) dX12_trace_19 ly_57 fX12_95 rfl ?_
        refine AW.iload_n (pc' := 23) dX12_trace_22 rfl ?_
        first | refine AW.ialdN (pc' := 24) dX12_trace_23 ly_85 (by first | assumption | omega | (constructor <;> omega) | (simp only [Int.toNat_natCast]; omega) | exact b2_in _) (by decide) (fun r23 => ?_) | refine AW.iald (pc' := 24) dX12_trace_23 ly_85 (by first | assumption | omega | (constructor <;> omega) | (simp only [Int.toNat_natCast]; omega) | exact b2_in _) (by first | assumption | omega | (constructor <;> omega) | (simp only [Int.toNat_natCast]; omega) | exact b2_in _) (by decide) (fun r23 => ?_)
        refine AW.goto (tgt := 28) dX12_trace_24 ?_
        refine AW.iret dX12_trace_28 ?_ ?_
        all_goals first | rfl | exact congrArg (fun z : Int => (some (vI z) : Option AV)) (b2_t (by omega)) | exact congrArg (fun z : Int => (some (vI z) : Option AV)) (b2_f (by omega)) | ((repeat' split) <;> first | rfl | omega) | (refine congrArg (fun z : Int => (some (vI z) : Option AV)) ?_; (repeat' split) <;> first | rfl | omega)
set_option maxRecDepth 100000 in
set_option maxHeartbeats 4000000 in
theorem c_X11_trace {K : KT} {dep : Nat} {h : Hp} {a : Int} (hd : 1 ≤ dep) (qr : 0 ≤ h 43 3) (q1 : inI a) : AM K yX11_trace cX11_trace 2 (some .int) dep [vR 0, vI a] h (some (vI (if 0 ≤ a ∧ a < h 43 3 ∧ a < 24 then h 45 a.toNat else -1))) (h) := by
  refine AM.of (own := RX11) (ls := [some (vR 0), some (vI a)]) rfl (by decide +kernel) (by exact Nat.le_of_ble_eq_true rfl) rfl (fun hO => ?_)
  refine AW.iload_n (pc' := 1) dX11_trace_0 rfl ?_
  refine AW.iconst (pc' := 2) dX11_trace_1 ?_
  refine AW.aload_n (pc' := 3) dX11_trace_2 rfl ?_
  refine AW.getR (pc' := 6) dX11_trace_3 ly_0 fX11_74 rfl ?_
  refine AW.getI (pc' := 9) dX11_trace_6 ly_43 fX11_298 rfl (fun r6 => ?_)
  refine AW.bipush (pc' := 11) dX11_trace_9 (by decide) ?_
  refine AW.mmin (pc' := 14) dX11_trace_11 mlX11_222 (by first | assumption | omega | (constructor <;> omega) | (simp only [Int.toNat_natCast]; omega) | exact b2_in _) (by first | assumption | omega | (constructor <;> omega) | (simp only [Int.toNat_natCast]; omega) | exact b2_in _) ?_
  refine AW.iconst (pc' := 15) dX11_trace_14 ?_
  refine AW.isub (pc' := 16) dX11_trace_15 ?_
  have mi : inI ((if 24 < h 43 3 then 24 else h 43 3) - 1) := by split <;> (constructor <;> omega)
  refine AW.invS3 (pc' := 19) dX11_trace_16 mlX11_89 mX11_within (c_X11_within (dep := dep - 1) (by first | assumption | omega | (constructor <;> omega) | (simp only [Int.toNat_natCast]; omega) | exact b2_in _) (by first | assumption | omega | (constructor <;> omega) | (simp only [Int.toNat_natCast]; omega) | exact b2_in _) (by first | assumption | omega | (constructor <;> omega) | (simp only [Int.toNat_natCast]; omega) | exact b2_in _)) ?_
  refine AW.ifb_eq (tgt := 34) (pc' := 22) dX11_trace_19 (fun c19 => ?_) (fun c19 => ?_)
  · refine AW.iconst (pc' := 35) dX11_trace_34 ?_
    refine AW.iret dX11_trace_35 ?_ ?_
    · refine congrArg (fun z : Int => (some (vI z) : Option AV)) ?_
      (repeat' split at *) <;> (repeat' split) <;> first | rfl | omega
    · rfl
  · refine AW.aload_n (pc' := 23) dX11_trace_22 rfl ?_
    refine AW.getR (pc' := 26) dX11_trace_23 ly_0 fX11_74 rfl ?_
    refine AW.getR (pc' := 29) dX11_trace_26 ly_43 fX11_305 rfl ?_
    refine AW.iload_n (pc' := 30) dX11_trace_29 rfl ?_
    first | refine AW.ialdN (pc' := 31) dX11_trace_30 ly_45 (by first | assumption | omega | (constructor <;> omega) | (simp only [Int.toNat_natCast]; omega) | exact b2_in _) (by decide) (fun r30 => ?_) | refine AW.iald (pc' := 31) dX11_trace_30 ly_45 (by first | assumption | omega | (constructor <;> omega) | (simp only [Int.toNat_natCast]; omega) | exact b2_in _) (by first | assumption | omega | (constructor <;> omega) | (simp only [Int.toNat_natCast]; omega) | exact b2_in _) (by decide) (fun r30 => ?_)
    refine AW.goto (tgt := 35) dX11_trace_31 ?_
    refine AW.iret dX11_trace_35 ?_ ?_
    · refine congrArg (fun z : Int => (some (vI z) : Option AV)) ?_
      (repeat' split at *) <;> (repeat' split) <;> first | rfl | omega
    · rfl
set_option maxRecDepth 100000 in
set_option maxHeartbeats 4000000 in
theorem c_X12_count {K : KT} {dep : Nat} {h : Hp} {a : Int}  (q0 : inI a) : AM K yX12_count cX12_count 2 (some .int) dep [vR 57, vI a] h (some (vI (if a = 0 then h 57 13 else if a = 1 then h 57 14 else if a = 2 then h 57 15 else if a = 3 then h 57 16 else if a = 4 then h 57 29 else if a = 5 then h 57 30 else if a = 6 then h 57 49 else if a = 7 then h 57 22 else if a = 8 then h 57 52 else if a = 9 then h 57 53 else -1))) (h) := by
  refine AM.of (own := RX12) (ls := [some (vR 57), some (vI a)]) rfl (by decide +kernel) (by exact Nat.le_of_ble_eq_true rfl) rfl (fun hO => ?_)
  refine AW.iload_n (pc' := 1) dX12_count_0 rfl ?_
  by_cases s1_0 : a = 0
  · refine AW.top s1_0 ?_
    refine AW.tableIn (tgt := 56) (off := 55) dX12_count_1 (by decide) (by decide) (by decide) rfl ?_
    refine AW.aload_n (pc' := 57) dX12_count_56 rfl ?_
    refine AW.getI (pc' := 60) dX12_count_57 ly_57 fX12_122 rfl (fun r57 => ?_)
    refine AW.iret dX12_count_60 ?_ ?_
    all_goals first | rfl | exact congrArg (fun z : Int => (some (vI z) : Option AV)) (b2_t (by omega)) | exact congrArg (fun z : Int => (some (vI z) : Option AV)) (b2_f (by omega)) | ((repeat' split) <;> first | rfl | omega) | (refine congrArg (fun z : Int => (some (vI z) : Option AV)) ?_; (repeat' split) <;> first | rfl | omega)
  by_cases s1_1 : a = 1
  · refine AW.top s1_1 ?_
    refine AW.tableIn (tgt := 61) (off := 60) dX12_count_1 (by decide) (by decide) (by decide) rfl ?_
    refine AW.aload_n (pc' := 62) dX12_count_61 rfl ?_
    refine AW.getI (pc' := 65) dX12_count_62 ly_57 fX12_114 rfl (fun r62 => ?_)
    refine AW.iret dX12_count_65 ?_ ?_
    all_goals first | rfl | exact congrArg (fun z : Int => (some (vI z) : Option AV)) (b2_t (by omega)) | exact congrArg (fun z : Int => (some (vI z) : Option AV)) (b2_f (by omega)) | ((repeat' split) <;> first | rfl | omega) | (refine congrArg (fun z : Int => (some (vI z) : Option AV)) ?_; (repeat' split) <;> first | rfl | omega)
  by_cases s1_2 : a = 2
  · refine AW.top s1_2 ?_
    refine AW.tableIn (tgt := 66) (off := 65) dX12_count_1 (by decide) (by decide) (by decide) rfl ?_
    refine AW.aload_n (pc' := 67) dX12_count_66 rfl ?_
    refine AW.getI (pc' := 70) dX12_count_67 ly_57 fX12_125 rfl (fun r67 => ?_)
    refine AW.iret dX12_count_70 ?_ ?_
    all_goals first | rfl | exact congrArg (fun z : Int => (some (vI z) : Option AV)) (b2_t (by omega)) | exact congrArg (fun z : Int => (some (vI z) : Option AV)) (b2_f (by omega)) | ((repeat' split) <;> first | rfl | omega) | (refine congrArg (fun z : Int => (some (vI z) : Option AV)) ?_; (repeat' split) <;> first | rfl | omega)
  by_cases s1_3 : a = 3
  · refine AW.top s1_3 ?_
    refine AW.tableIn (tgt := 71) (off := 70) dX12_count_1 (by decide) (by decide) (by decide) rfl ?_
    refine AW.aload_n (pc' := 72) dX12_count_71 rfl ?_
    refine AW.getI (pc' := 75) dX12_count_72 ly_57 fX12_128 rfl (fun r72 => ?_)
    refine AW.iret dX12_count_75 ?_ ?_
    all_goals first | rfl | exact congrArg (fun z : Int => (some (vI z) : Option AV)) (b2_t (by omega)) | exact congrArg (fun z : Int => (some (vI z) : Option AV)) (b2_f (by omega)) | ((repeat' split) <;> first | rfl | omega) | (refine congrArg (fun z : Int => (some (vI z) : Option AV)) ?_; (repeat' split) <;> first | rfl | omega)
  by_cases s1_4 : a = 4
  · refine AW.top s1_4 ?_
    refine AW.tableIn (tgt := 76) (off := 75) dX12_count_1 (by decide) (by decide) (by decide) rfl ?_
    refine AW.aload_n (pc' := 77) dX12_count_76 rfl ?_
    refine AW.getI (pc' := 80) dX12_count_77 ly_57 fX12_181 rfl (fun r77 => ?_)
    refine AW.iret dX12_count_80 ?_ ?_
    all_goals first | rfl | exact congrArg (fun z : Int => (some (vI z) : Option AV)) (b2_t (by omega)) | exact congrArg (fun z : Int => (some (vI z) : Option AV)) (b2_f (by omega)) | ((repeat' split) <;> first | rfl | omega) | (refine congrArg (fun z : Int => (some (vI z) : Option AV)) ?_; (repeat' split) <;> first | rfl | omega)
  by_cases s1_5 : a = 5
  · refine AW.top s1_5 ?_
    refine AW.tableIn (tgt := 81) (off := 80) dX12_count_1 (by decide) (by decide) (by decide) rfl ?_
    refine AW.aload_n (pc' := 82) dX12_count_81 rfl ?_
    refine AW.getI (pc' := 85) dX12_count_82 ly_57 fX12_223 rfl (fun r82 => ?_)
    refine AW.iret dX12_count_85 ?_ ?_
    all_goals first | rfl | exact congrArg (fun z : Int => (some (vI z) : Option AV)) (b2_t (by omega)) | exact congrArg (fun z : Int => (some (vI z) : Option AV)) (b2_f (by omega)) | ((repeat' split) <;> first | rfl | omega) | (refine congrArg (fun z : Int => (some (vI z) : Option AV)) ?_; (repeat' split) <;> first | rfl | omega)
  by_cases s1_6 : a = 6
  · refine AW.top s1_6 ?_
    refine AW.tableIn (tgt := 86) (off := 85) dX12_count_1 (by decide) (by decide) (by decide) rfl ?_
    refine AW.aload_n (pc' := 87) dX12_count_86 rfl ?_
    refine AW.getI (pc' := 90) dX12_count_87 ly_57 fX12_322 rfl (fun r87 => ?_)
    refine AW.iret dX12_count_90 ?_ ?_
    all_goals first | rfl | exact congrArg (fun z : Int => (some (vI z) : Option AV)) (b2_t (by omega)) | exact congrArg (fun z : Int => (some (vI z) : Option AV)) (b2_f (by omega)) | ((repeat' split) <;> first | rfl | omega) | (refine congrArg (fun z : Int => (some (vI z) : Option AV)) ?_; (repeat' split) <;> first | rfl | omega)
  by_cases s1_7 : a = 7
  · refine AW.top s1_7 ?_
    refine AW.tableIn (tgt := 91) (off := 90) dX12_count_1 (by decide) (by decide) (by decide) rfl ?_
    refine AW.aload_n (pc' := 92) dX12_count_91 rfl ?_
    refine AW.getI (pc' := 95) dX12_count_92 ly_57 fX12_171 rfl (fun r92 => ?_)
    refine AW.iret dX12_count_95 ?_ ?_
    all_goals first | rfl | exact congrArg (fun z : Int => (some (vI z) : Option AV)) (b2_t (by omega)) | exact congrArg (fun z : Int => (some (vI z) : Option AV)) (b2_f (by omega)) | ((repeat' split) <;> first | rfl | omega) | (refine congrArg (fun z : Int => (some (vI z) : Option AV)) ?_; (repeat' split) <;> first | rfl | omega)
  by_cases s1_8 : a = 8
  · refine AW.top s1_8 ?_
    refine AW.tableIn (tgt := 96) (off := 95) dX12_count_1 (by decide) (by decide) (by decide) rfl ?_
    refine AW.aload_n (pc' := 97) dX12_count_96 rfl ?_
    refine AW.getI (pc' := 100) dX12_count_97 ly_57 fX12_339 rfl (fun r97 => ?_)
    refine AW.iret dX12_count_100 ?_ ?_
    all_goals first | rfl | exact congrArg (fun z : Int => (some (vI z) : Option AV)) (b2_t (by omega)) | exact congrArg (fun z : Int => (some (vI z) : Option AV)) (b2_f (by omega)) | ((repeat' split) <;> first | rfl | omega) | (refine congrArg (fun z : Int => (some (vI z) : Option AV)) ?_; (repeat' split) <;> first | rfl | omega)
  by_cases s1_9 : a = 9
  · refine AW.top s1_9 ?_
    refine AW.tableIn (tgt := 101) (off := 100) dX12_count_1 (by decide) (by decide) (by decide) rfl ?_
    refine AW.aload_n (pc' := 102) dX12_count_101 rfl ?_
    refine AW.getI (pc' := 105) dX12_count_102 ly_57 fX12_342 rfl (fun r102 => ?_)
    refine AW.iret dX12_count_105 ?_ ?_
    all_goals first | rfl | exact congrArg (fun z : Int => (some (vI z) : Option AV)) (b2_t (by omega)) | exact congrArg (fun z : Int => (some (vI z) : Option AV)) (b2_f (by omega)) | ((repeat' split) <;> first | rfl | omega) | (refine congrArg (fun z : Int => (some (vI z) : Option AV)) ?_; (repeat' split) <;> first | rfl | omega)
  refine AW.tableOut (tgt := 106) dX12_count_1 (by first | assumption | omega | (constructor <;> omega) | (simp only [Int.toNat_natCast]; omega) | exact b2_in _) (by omega) ?_
  refine AW.iconst (pc' := 107) dX12_count_106 ?_
  refine AW.iret dX12_count_107 ?_ ?_
  all_goals first | rfl | exact congrArg (fun z : Int => (some (vI z) : Option AV)) (b2_t (by omega)) | exact congrArg (fun z : Int => (some (vI z) : Option AV)) (b2_f (by omega)) | ((repeat' split) <;> first | rfl | omega) | (refine congrArg (fun z : Int => (some (vI z) : Option AV)) ?_; (repeat' split) <;> first | rfl | omega)
set_option maxRecDepth 100000 in
set_option maxHeartbeats 4000000 in
theorem c_X11_count {K : KT} {dep : Nat} {h : Hp} {a : Int}  (q0 : inI a) : AM K yX11_count cX11_count 2 (some .int) dep [vR 0, vI a] h (some (vI (if a = 0 then h 1 4 else if a = 1 then h 6 3 else if a = 2 then h 10 1 else if a = 3 then h 12 10 else if a = 4 then h 26 4 else if a = 5 then h 26 5 else if a = 6 then h 40 2 else if a = 7 then h 21 6 else if a = 8 then h 43 2 else if a = 9 then h 43 3 else -1))) (h) := by
  refine AM.of (own := RX11) (ls := [some (vR 0), some (vI a)]) rfl (by decide +kernel) (by exact Nat.le_of_ble_eq_true rfl) rfl (fun hO => ?_)
  refine AW.iload_n (pc' := 1) dX11_count_0 rfl ?_
  by_cases s1_0 : a = 0
  · refine AW.top s1_0 ?_
    refine AW.tableIn (tgt := 56) (off := 55) dX11_count_1 (by decide) (by decide) (by decide) rfl ?_
    refine AW.aload_n (pc' := 57) dX11_count_56 rfl ?_
    refine AW.getR (pc' := 60) dX11_count_57 ly_0 fX11_10 rfl ?_
    refine AW.getI (pc' := 63) dX11_count_60 ly_1 fX11_181 rfl (fun r60 => ?_)
    refine AW.iret dX11_count_63 ?_ ?_
    all_goals first | rfl | exact congrArg (fun z : Int => (some (vI z) : Option AV)) (b2_t (by omega)) | exact congrArg (fun z : Int => (some (vI z) : Option AV)) (b2_f (by omega)) | ((repeat' split) <;> first | rfl | omega) | (refine congrArg (fun z : Int => (some (vI z) : Option AV)) ?_; (repeat' split) <;> first | rfl | omega)
  by_cases s1_1 : a = 1
  · refine AW.top s1_1 ?_
    refine AW.tableIn (tgt := 64) (off := 63) dX11_count_1 (by decide) (by decide) (by decide) rfl ?_
    refine AW.aload_n (pc' := 65) dX11_count_64 rfl ?_
    refine AW.getR (pc' := 68) dX11_count_65 ly_0 fX11_19 rfl ?_
    refine AW.getI (pc' := 71) dX11_count_68 ly_6 fX11_346 rfl (fun r68 => ?_)
    refine AW.iret dX11_count_71 ?_ ?_
    all_goals first | rfl | exact congrArg (fun z : Int => (some (vI z) : Option AV)) (b2_t (by omega)) | exact congrArg (fun z : Int => (some (vI z) : Option AV)) (b2_f (by omega)) | ((repeat' split) <;> first | rfl | omega) | (refine congrArg (fun z : Int => (some (vI z) : Option AV)) ?_; (repeat' split) <;> first | rfl | omega)
  by_cases s1_2 : a = 2
  · refine AW.top s1_2 ?_
    refine AW.tableIn (tgt := 72) (off := 71) dX11_count_1 (by decide) (by decide) (by decide) rfl ?_
    refine AW.aload_n (pc' := 73) dX11_count_72 rfl ?_
    refine AW.getR (pc' := 76) dX11_count_73 ly_0 fX11_26 rfl ?_
    refine AW.getI (pc' := 79) dX11_count_76 ly_10 fX11_347 rfl (fun r76 => ?_)
    refine AW.iret dX11_count_79 ?_ ?_
    all_goals first | rfl | exact congrArg (fun z : Int => (some (vI z) : Option AV)) (b2_t (by omega)) | exact congrArg (fun z : Int => (some (vI z) : Option AV)) (b2_f (by omega)) | ((repeat' split) <;> first | rfl | omega) | (refine congrArg (fun z : Int => (some (vI z) : Option AV)) ?_; (repeat' split) <;> first | rfl | omega)
  by_cases s1_3 : a = 3
  · refine AW.top s1_3 ?_
    refine AW.tableIn (tgt := 80) (off := 79) dX11_count_1 (by decide) (by decide) (by decide) rfl ?_
    refine AW.aload_n (pc' := 81) dX11_count_80 rfl ?_
    refine AW.getR (pc' := 84) dX11_count_81 ly_0 fX11_35 rfl ?_
    refine AW.getI (pc' := 87) dX11_count_84 ly_12 fX11_180 rfl (fun r84 => ?_)
    refine AW.iret dX11_count_87 ?_ ?_
    all_goals first | rfl | exact congrArg (fun z : Int => (some (vI z) : Option AV)) (b2_t (by omega)) | exact congrArg (fun z : Int => (some (vI z) : Option AV)) (b2_f (by omega)) | ((repeat' split) <;> first | rfl | omega) | (refine congrArg (fun z : Int => (some (vI z) : Option AV)) ?_; (repeat' split) <;> first | rfl | omega)
  by_cases s1_4 : a = 4
  · refine AW.top s1_4 ?_
    refine AW.tableIn (tgt := 88) (off := 87) dX11_count_1 (by decide) (by decide) (by decide) rfl ?_
    refine AW.aload_n (pc' := 89) dX11_count_88 rfl ?_
    refine AW.getR (pc' := 92) dX11_count_89 ly_0 fX11_51 rfl ?_
    refine AW.getI (pc' := 95) dX11_count_92 ly_26 fX11_348 rfl (fun r92 => ?_)
    refine AW.iret dX11_count_95 ?_ ?_
    all_goals first | rfl | exact congrArg (fun z : Int => (some (vI z) : Option AV)) (b2_t (by omega)) | exact congrArg (fun z : Int => (some (vI z) : Option AV)) (b2_f (by omega)) | ((repeat' split) <;> first | rfl | omega) | (refine congrArg (fun z : Int => (some (vI z) : Option AV)) ?_; (repeat' split) <;> first | rfl | omega)
  by_cases s1_5 : a = 5
  · refine AW.top s1_5 ?_
    refine AW.tableIn (tgt := 96) (off := 95) dX11_count_1 (by decide) (by decide) (by decide) rfl ?_
    refine AW.aload_n (pc' := 97) dX11_count_96 rfl ?_
    refine AW.getR (pc' := 100) dX11_count_97 ly_0 fX11_51 rfl ?_
    refine AW.getI (pc' := 103) dX11_count_100 ly_26 fX11_174 rfl (fun r100 => ?_)
    refine AW.iret dX11_count_103 ?_ ?_
    all_goals first | rfl | exact congrArg (fun z : Int => (some (vI z) : Option AV)) (b2_t (by omega)) | exact congrArg (fun z : Int => (some (vI z) : Option AV)) (b2_f (by omega)) | ((repeat' split) <;> first | rfl | omega) | (refine congrArg (fun z : Int => (some (vI z) : Option AV)) ?_; (repeat' split) <;> first | rfl | omega)
  by_cases s1_6 : a = 6
  · refine AW.top s1_6 ?_
    refine AW.tableIn (tgt := 104) (off := 103) dX11_count_1 (by decide) (by decide) (by decide) rfl ?_
    refine AW.aload_n (pc' := 105) dX11_count_104 rfl ?_
    refine AW.getR (pc' := 108) dX11_count_105 ly_0 fX11_67 rfl ?_
    refine AW.getI (pc' := 111) dX11_count_108 ly_40 fX11_267 rfl (fun r108 => ?_)
    refine AW.iret dX11_count_111 ?_ ?_
    all_goals first | rfl | exact congrArg (fun z : Int => (some (vI z) : Option AV)) (b2_t (by omega)) | exact congrArg (fun z : Int => (some (vI z) : Option AV)) (b2_f (by omega)) | ((repeat' split) <;> first | rfl | omega) | (refine congrArg (fun z : Int => (some (vI z) : Option AV)) ?_; (repeat' split) <;> first | rfl | omega)
  by_cases s1_7 : a = 7
  · refine AW.top s1_7 ?_
    refine AW.tableIn (tgt := 112) (off := 111) dX11_count_1 (by decide) (by decide) (by decide) rfl ?_
    refine AW.aload_n (pc' := 113) dX11_count_112 rfl ?_
    refine AW.getR (pc' := 116) dX11_count_113 ly_0 fX11_44 rfl ?_
    refine AW.getI (pc' := 119) dX11_count_116 ly_21 fX11_351 rfl (fun r116 => ?_)
    refine AW.iret dX11_count_119 ?_ ?_
    all_goals first | rfl | exact congrArg (fun z : Int => (some (vI z) : Option AV)) (b2_t (by omega)) | exact congrArg (fun z : Int => (some (vI z) : Option AV)) (b2_f (by omega)) | ((repeat' split) <;> first | rfl | omega) | (refine congrArg (fun z : Int => (some (vI z) : Option AV)) ?_; (repeat' split) <;> first | rfl | omega)
  by_cases s1_8 : a = 8
  · refine AW.top s1_8 ?_
    refine AW.tableIn (tgt := 120) (off := 119) dX11_count_1 (by decide) (by decide) (by decide) rfl ?_
    refine AW.aload_n (pc' := 121) dX11_count_120 rfl ?_
    refine AW.getR (pc' := 124) dX11_count_121 ly_0 fX11_74 rfl ?_
    refine AW.getI (pc' := 127) dX11_count_124 ly_43 fX11_354 rfl (fun r124 => ?_)
    refine AW.iret dX11_count_127 ?_ ?_
    all_goals first | rfl | exact congrArg (fun z : Int => (some (vI z) : Option AV)) (b2_t (by omega)) | exact congrArg (fun z : Int => (some (vI z) : Option AV)) (b2_f (by omega)) | ((repeat' split) <;> first | rfl | omega) | (refine congrArg (fun z : Int => (some (vI z) : Option AV)) ?_; (repeat' split) <;> first | rfl | omega)
  by_cases s1_9 : a = 9
  · refine AW.top s1_9 ?_
    refine AW.tableIn (tgt := 128) (off := 127) dX11_count_1 (by decide) (by decide) (by decide) rfl ?_
    refine AW.aload_n (pc' := 129) dX11_count_128 rfl ?_
    refine AW.getR (pc' := 132) dX11_count_129 ly_0 fX11_74 rfl ?_
    refine AW.getI (pc' := 135) dX11_count_132 ly_43 fX11_298 rfl (fun r132 => ?_)
    refine AW.iret dX11_count_135 ?_ ?_
    all_goals first | rfl | exact congrArg (fun z : Int => (some (vI z) : Option AV)) (b2_t (by omega)) | exact congrArg (fun z : Int => (some (vI z) : Option AV)) (b2_f (by omega)) | ((repeat' split) <;> first | rfl | omega) | (refine congrArg (fun z : Int => (some (vI z) : Option AV)) ?_; (repeat' split) <;> first | rfl | omega)
  refine AW.tableOut (tgt := 136) dX11_count_1 (by first | assumption | omega | (constructor <;> omega) | (simp only [Int.toNat_natCast]; omega) | exact b2_in _) (by omega) ?_
  refine AW.iconst (pc' := 137) dX11_count_136 ?_
  refine AW.iret dX11_count_137 ?_ ?_
  all_goals first | rfl | exact congrArg (fun z : Int => (some (vI z) : Option AV)) (b2_t (by omega)) | exact congrArg (fun z : Int => (some (vI z) : Option AV)) (b2_f (by omega)) | ((repeat' split) <;> first | rfl | omega) | (refine congrArg (fun z : Int => (some (vI z) : Option AV)) ?_; (repeat' split) <;> first | rfl | omega)
set_option maxRecDepth 100000 in
set_option maxHeartbeats 4000000 in
theorem c_X12_point {K : KT} {dep : Nat} {h : Hp} {a b : Int} (hd : 2 ≤ dep) (qb : 0 ≤ h 57 49 ∧ h 57 49 ≤ 6) (q1 : inI a) (q2 : inI b) : AM K yX12_point cX12_point 3 (some .int) dep [vR 57, vI a, vI b] h (some (vI (if ¬ ((0 ≤ a ∧ a ≤ 99) ∧ (0 ≤ b ∧ b ≤ 99) ∧ (h 57 49 = 0 ∨ h 82 (h 57 49 - 1).toNat < a)) then -1 else if h 57 49 = 6 then -3 else h 57 49 + 1))) (if ¬ ((0 ≤ a ∧ a ≤ 99) ∧ (0 ≤ b ∧ b ≤ 99) ∧ (h 57 49 = 0 ∨ h 82 (h 57 49 - 1).toNat < a)) then h else if h 57 49 = 6 then h else hset (hset (hset h 82 (h 57 49).toNat a) 83 (h 57 49).toNat b) 57 49 (h 57 49 + 1)) := by
  refine AM.of (own := RX12) (ls := [some (vR 57), some (vI a), some (vI b)]) rfl (by decide +kernel) (by exact Nat.le_of_ble_eq_true rfl) rfl (fun hO => ?_)
  refine AW.iload_n (pc' := 1) dX12_point_0 rfl ?_
  refine AW.iconst (pc' := 2) dX12_point_1 ?_
  refine AW.bipush (pc' := 4) dX12_point_2 (by decide) ?_
  refine AW.invS3 (pc' := 7) dX12_point_4 mlX12_117 mX12_isIn (c_X12_isIn (dep := dep - 1) (by first | assumption | omega | (constructor <;> omega) | (simp only [Int.toNat_natCast]; omega) | exact b2_in _) (by first | assumption | omega | (constructor <;> omega) | (simp only [Int.toNat_natCast]; omega) | exact b2_in _) (by first | assumption | omega | (constructor <;> omega) | (simp only [Int.toNat_natCast]; omega) | exact b2_in _)) ?_
  refine AW.ifb_eq (tgt := 42) (pc' := 10) dX12_point_7 (fun c7 => ?_) (fun c7 => ?_)
  · refine AW.iconst (pc' := 43) dX12_point_42 ?_
    refine AW.iret dX12_point_43 ?_ ?_
    all_goals first | rfl | exact congrArg (fun z : Int => (some (vI z) : Option AV)) (b2_t (by omega)) | exact congrArg (fun z : Int => (some (vI z) : Option AV)) (b2_f (by omega)) | ((repeat' split) <;> first | rfl | omega) | (refine congrArg (fun z : Int => (some (vI z) : Option AV)) ?_; (repeat' split) <;> first | rfl | omega)
  · refine AW.iload_n (pc' := 11) dX12_point_10 rfl ?_
    refine AW.iconst (pc' := 12) dX12_point_11 ?_
    refine AW.bipush (pc' := 14) dX12_point_12 (by decide) ?_
    refine AW.invS3 (pc' := 17) dX12_point_14 mlX12_117 mX12_isIn (c_X12_isIn (dep := dep - 1) (by first | assumption | omega | (constructor <;> omega) | (simp only [Int.toNat_natCast]; omega) | exact b2_in _) (by first | assumption | omega | (constructor <;> omega) | (simp only [Int.toNat_natCast]; omega) | exact b2_in _) (by first | assumption | omega | (constructor <;> omega) | (simp only [Int.toNat_natCast]; omega) | exact b2_in _)) ?_
    refine AW.ifb_eq (tgt := 42) (pc' := 20) dX12_point_17 (fun c17 => ?_) (fun c17 => ?_)
    · refine AW.iconst (pc' := 43) dX12_point_42 ?_
      refine AW.iret dX12_point_43 ?_ ?_
      all_goals first | rfl | exact congrArg (fun z : Int => (some (vI z) : Option AV)) (b2_t (by omega)) | exact congrArg (fun z : Int => (some (vI z) : Option AV)) (b2_f (by omega)) | ((repeat' split) <;> first | rfl | omega) | (refine congrArg (fun z : Int => (some (vI z) : Option AV)) ?_; (repeat' split) <;> first | rfl | omega)
    · refine AW.aload_n (pc' := 21) dX12_point_20 rfl ?_
      refine AW.getI (pc' := 24) dX12_point_21 ly_57 fX12_322 rfl (fun r21 => ?_)
      refine AW.if_le (tgt := 44) (pc' := 27) dX12_point_24 (by first | assumption | omega | (constructor <;> omega) | (simp only [Int.toNat_natCast]; omega) | exact b2_in _) (fun c24 => ?_) (fun c24 => ?_)
      · refine AW.aload_n (pc' := 45) dX12_point_44 rfl ?_
        refine AW.getI (pc' := 48) dX12_point_45 ly_57 fX12_322 rfl (fun r45 => ?_)
        refine AW.bipush (pc' := 50) dX12_point_48 (by decide) ?_
        refine AW.icmp_ne (tgt := 56) (pc' := 53) dX12_point_50 (by first | assumption | omega | (constructor <;> omega) | (simp only [Int.toNat_natCast]; omega) | exact b2_in _) (by first | assumption | omega | (constructor <;> omega) | (simp only [Int.toNat_natCast]; omega) | exact b2_in _) (fun c50 => ?_) (fun c50 => ?_)
        · refine AW.aload_n (pc' := 57) dX12_point_56 rfl ?_
          refine AW.getR (pc' := 60) dX12_point_57 ly_57 fX12_86 rfl ?_
          refine AW.aload_n (pc' := 61) dX12_point_60 rfl ?_
          refine AW.getI (pc' := 64) dX12_point_61 ly_57 fX12_322 rfl (fun r61 => ?_)
          refine AW.iload_n (pc' := 65) dX12_point_64 rfl ?_
          first | refine AW.iastN (pc' := 66) dX12_point_65 ly_82 (by first | assumption | omega | (constructor <;> omega) | (simp only [Int.toNat_natCast]; omega) | exact b2_in _) (by decide) (by first | assumption | omega | (constructor <;> omega) | (simp only [Int.toNat_natCast]; omega) | exact b2_in _) ?_ | refine AW.iast (pc' := 66) dX12_point_65 ly_82 (by first | assumption | omega | (constructor <;> omega) | (simp only [Int.toNat_natCast]; omega) | exact b2_in _) (by first | assumption | omega | (constructor <;> omega) | (simp only [Int.toNat_natCast]; omega) | exact b2_in _) (by decide) (by first | assumption | omega | (constructor <;> omega) | (simp only [Int.toNat_natCast]; omega) | exact b2_in _) ?_
          refine AW.aload_n (pc' := 67) dX12_point_66 rfl ?_
          refine AW.getR (pc' := 70) dX12_point_67 ly_57 fX12_89 rfl ?_
          refine AW.aload_n (pc' := 71) dX12_point_70 rfl ?_
          refine AW.getI (pc' := 74) dX12_point_71 ly_57 fX12_322 rfl (fun r71 => ?_)
          try simp only [hset_app, Nat.reduceEqDiff, false_and, and_false, true_and, and_true, reduceIte] at r71 ⊢
          refine AW.iload_n (pc' := 75) dX12_point_74 rfl ?_
          first | refine AW.iastN (pc' := 76) dX12_point_75 ly_83 (by first | assumption | omega | (constructor <;> omega) | (simp only [Int.toNat_natCast]; omega) | exact b2_in _) (by decide) (by first | assumption | omega | (constructor <;> omega) | (simp only [Int.toNat_natCast]; omega) | exact b2_in _) ?_ | refine AW.iast (pc' := 76) dX12_point_75 ly_83 (by first | assumption | omega | (constructor <;> omega) | (simp only [Int.toNat_natCast]; omega) | exact b2_in _) (by first | assumption | omega | (constructor <;> omega) | (simp only [Int.toNat_natCast]; omega) | exact b2_in _) (by decide) (by first | assumption | omega | (constructor <;> omega) | (simp only [Int.toNat_natCast]; omega) | exact b2_in _) ?_
          refine AW.aload_n (pc' := 77) dX12_point_76 rfl ?_
          refine AW.dup (pc' := 78) dX12_point_77 rfl ?_
          refine AW.getI (pc' := 81) dX12_point_78 ly_57 fX12_322 rfl (fun r78 => ?_)
          try simp only [hset_app, Nat.reduceEqDiff, false_and, and_false, true_and, and_true, reduceIte] at r78 ⊢
          refine AW.iconst (pc' := 82) dX12_point_81 ?_
          refine AW.iadd (pc' := 83) dX12_point_82 ?_
          refine AW.putI (pc' := 86) dX12_point_83 ly_57 pX12_322 rfl (by first | assumption | omega | (constructor <;> omega) | (simp only [Int.toNat_natCast]; omega) | exact b2_in _) ?_
          refine AW.aload_n (pc' := 87) dX12_point_86 rfl ?_
          refine AW.getI (pc' := 90) dX12_point_87 ly_57 fX12_322 rfl (fun r87 => ?_)
          try simp only [hset_app, Nat.reduceEqDiff, false_and, and_false, true_and, and_true, reduceIte] at r87 ⊢
          refine AW.iret dX12_point_90 ?_ ?_
          all_goals first | rfl | exact congrArg (fun z : Int => (some (vI z) : Option AV)) (b2_t (by omega)) | exact congrArg (fun z : Int => (some (vI z) : Option AV)) (b2_f (by omega)) | ((repeat' split) <;> first | rfl | omega) | (refine congrArg (fun z : Int => (some (vI z) : Option AV)) ?_; (repeat' split) <;> first | rfl | omega)
        · refine AW.bipush (pc' := 55) dX12_point_53 (by decide) ?_
          refine AW.iret dX12_point_55 ?_ ?_
          all_goals first | rfl | exact congrArg (fun z : Int => (some (vI z) : Option AV)) (b2_t (by omega)) | exact congrArg (fun z : Int => (some (vI z) : Option AV)) (b2_f (by omega)) | ((repeat' split) <;> first | rfl | omega) | (refine congrArg (fun z : Int => (some (vI z) : Option AV)) ?_; (repeat' split) <;> first | rfl | omega)
      · refine AW.iload_n (pc' := 28) dX12_point_27 rfl ?_
        refine AW.aload_n (pc' := 29) dX12_point_28 rfl ?_
        refine AW.getR (pc' := 32) dX12_point_29 ly_57 fX12_86 rfl ?_
        refine AW.aload_n (pc' := 33) dX12_point_32 rfl ?_
        refine AW.getI (pc' := 36) dX12_point_33 ly_57 fX12_322 rfl (fun r33 => ?_)
        refine AW.iconst (pc' := 37) dX12_point_36 ?_
        refine AW.isub (pc' := 38) dX12_point_37 ?_
        first | refine AW.ialdN (pc' := 39) dX12_point_38 ly_82 (by first | assumption | omega | (constructor <;> omega) | (simp only [Int.toNat_natCast]; omega) | exact b2_in _) (by decide) (fun r38 => ?_) | refine AW.iald (pc' := 39) dX12_point_38 ly_82 (by first | assumption | omega | (constructor <;> omega) | (simp only [Int.toNat_natCast]; omega) | exact b2_in _) (by first | assumption | omega | (constructor <;> omega) | (simp only [Int.toNat_natCast]; omega) | exact b2_in _) (by decide) (fun r38 => ?_)
        refine AW.icmp_gt (tgt := 44) (pc' := 42) dX12_point_39 (by first | assumption | omega | (constructor <;> omega) | (simp only [Int.toNat_natCast]; omega) | exact b2_in _) (by first | assumption | omega | (constructor <;> omega) | (simp only [Int.toNat_natCast]; omega) | exact b2_in _) (fun c39 => ?_) (fun c39 => ?_)
        · refine AW.aload_n (pc' := 45) dX12_point_44 rfl ?_
          refine AW.getI (pc' := 48) dX12_point_45 ly_57 fX12_322 rfl (fun r45 => ?_)
          refine AW.bipush (pc' := 50) dX12_point_48 (by decide) ?_
          refine AW.icmp_ne (tgt := 56) (pc' := 53) dX12_point_50 (by first | assumption | omega | (constructor <;> omega) | (simp only [Int.toNat_natCast]; omega) | exact b2_in _) (by first | assumption | omega | (constructor <;> omega) | (simp only [Int.toNat_natCast]; omega) | exact b2_in _) (fun c50 => ?_) (fun c50 => ?_)
          · refine AW.aload_n (pc' := 57) dX12_point_56 rfl ?_
            refine AW.getR (pc' := 60) dX12_point_57 ly_57 fX12_86 rfl ?_
            refine AW.aload_n (pc' := 61) dX12_point_60 rfl ?_
            refine AW.getI (pc' := 64) dX12_point_61 ly_57 fX12_322 rfl (fun r61 => ?_)
            refine AW.iload_n (pc' := 65) dX12_point_64 rfl ?_
            first | refine AW.iastN (pc' := 66) dX12_point_65 ly_82 (by first | assumption | omega | (constructor <;> omega) | (simp only [Int.toNat_natCast]; omega) | exact b2_in _) (by decide) (by first | assumption | omega | (constructor <;> omega) | (simp only [Int.toNat_natCast]; omega) | exact b2_in _) ?_ | refine AW.iast (pc' := 66) dX12_point_65 ly_82 (by first | assumption | omega | (constructor <;> omega) | (simp only [Int.toNat_natCast]; omega) | exact b2_in _) (by first | assumption | omega | (constructor <;> omega) | (simp only [Int.toNat_natCast]; omega) | exact b2_in _) (by decide) (by first | assumption | omega | (constructor <;> omega) | (simp only [Int.toNat_natCast]; omega) | exact b2_in _) ?_
            refine AW.aload_n (pc' := 67) dX12_point_66 rfl ?_
            refine AW.getR (pc' := 70) dX12_point_67 ly_57 fX12_89 rfl ?_
            refine AW.aload_n (pc' := 71) dX12_point_70 rfl ?_
            refine AW.getI (pc' := 74) dX12_point_71 ly_57 fX12_322 rfl (fun r71 => ?_)
            try simp only [hset_app, Nat.reduceEqDiff, false_and, and_false, true_and, and_true, reduceIte] at r71 ⊢
            refine AW.iload_n (pc' := 75) dX12_point_74 rfl ?_
            first | refine AW.iastN (pc' := 76) dX12_point_75 ly_83 (by first | assumption | omega | (constructor <;> omega) | (simp only [Int.toNat_natCast]; omega) | exact b2_in _) (by decide) (by first | assumption | omega | (constructor <;> omega) | (simp only [Int.toNat_natCast]; omega) | exact b2_in _) ?_ | refine AW.iast (pc' := 76) dX12_point_75 ly_83 (by first | assumption | omega | (constructor <;> omega) | (simp only [Int.toNat_natCast]; omega) | exact b2_in _) (by first | assumption | omega | (constructor <;> omega) | (simp only [Int.toNat_natCast]; omega) | exact b2_in _) (by decide) (by first | assumption | omega | (constructor <;> omega) | (simp only [Int.toNat_natCast]; omega) | exact b2_in _) ?_
            refine AW.aload_n (pc' := 77) dX12_point_76 rfl ?_
            refine AW.dup (pc' := 78) dX12_point_77 rfl ?_
            refine AW.getI (pc' := 81) dX12_point_78 ly_57 fX12_322 rfl (fun r78 => ?_)
            try simp only [hset_app, Nat.reduceEqDiff, false_and, and_false, true_and, and_true, reduceIte] at r78 ⊢
            refine AW.iconst (pc' := 82) dX12_point_81 ?_
            refine AW.iadd (pc' := 83) dX12_point_82 ?_
            refine AW.putI (pc' := 86) dX12_point_83 ly_57 pX12_322 rfl (by first | assumption | omega | (constructor <;> omega) | (simp only [Int.toNat_natCast]; omega) | exact b2_in _) ?_
            refine AW.aload_n (pc' := 87) dX12_point_86 rfl ?_
            refine AW.getI (pc' := 90) dX12_point_87 ly_57 fX12_322 rfl (fun r87 => ?_)
            try simp only [hset_app, Nat.reduceEqDiff, false_and, and_false, true_and, and_true, reduceIte] at r87 ⊢
            refine AW.iret dX12_point_90 ?_ ?_
            all_goals first | rfl | exact congrArg (fun z : Int => (some (vI z) : Option AV)) (b2_t (by omega)) | exact congrArg (fun z : Int => (some (vI z) : Option AV)) (b2_f (by omega)) | ((repeat' split) <;> first | rfl | omega) | (refine congrArg (fun z : Int => (some (vI z) : Option AV)) ?_; (repeat' split) <;> first | rfl | omega)
          · refine AW.bipush (pc' := 55) dX12_point_53 (by decide) ?_
            refine AW.iret dX12_point_55 ?_ ?_
            all_goals first | rfl | exact congrArg (fun z : Int => (some (vI z) : Option AV)) (b2_t (by omega)) | exact congrArg (fun z : Int => (some (vI z) : Option AV)) (b2_f (by omega)) | ((repeat' split) <;> first | rfl | omega) | (refine congrArg (fun z : Int => (some (vI z) : Option AV)) ?_; (repeat' split) <;> first | rfl | omega)
        · refine AW.iconst (pc' := 43) dX12_point_42 ?_
          refine AW.iret dX12_point_43 ?_ ?_
          all_goals first | rfl | exact congrArg (fun z : Int => (some (vI z) : Option AV)) (b2_t (by omega)) | exact congrArg (fun z : Int => (some (vI z) : Option AV)) (b2_f (by omega)) | ((repeat' split) <;> first | rfl | omega) | (refine congrArg (fun z : Int => (some (vI z) : Option AV)) ?_; (repeat' split) <;> first | rfl | omega)
set_option maxRecDepth 100000 in
set_option maxHeartbeats 4000000 in
theorem c_X11_point {K : KT} {dep : Nat} {h : Hp} {a b : Int} (hd : 2 ≤ dep) (qb : 0 ≤ h 40 2 ∧ h 40 2 ≤ 6) (q1 : inI a) (q2 : inI b) : AM K yX11_point cX11_point 3 (some .int) dep [vR 0, vI a, vI b] h (some (vI (if ¬ ((0 ≤ a ∧ a ≤ 99) ∧ (0 ≤ b ∧ b ≤ 99) ∧ (h 40 2 = 0 ∨ h 41 (h 40 2 - 1).toNat < a)) then -1 else if 6 ≤ h 40 2 then -3 else h 40 2 + 1))) (if ¬ ((0 ≤ a ∧ a ≤ 99) ∧ (0 ≤ b ∧ b ≤ 99) ∧ (h 40 2 = 0 ∨ h 41 (h 40 2 - 1).toNat < a)) then h else if 6 ≤ h 40 2 then h else hset (hset (hset h 41 (h 40 2).toNat a) 42 (h 40 2).toNat b) 40 2 (h 40 2 + 1)) := by
  refine AM.of (own := RX11) (ls := [some (vR 0), some (vI a), some (vI b)]) rfl (by decide +kernel) (by exact Nat.le_of_ble_eq_true rfl) rfl (fun hO => ?_)
  refine AW.iload_n (pc' := 1) dX11_point_0 rfl ?_
  refine AW.iconst (pc' := 2) dX11_point_1 ?_
  refine AW.bipush (pc' := 4) dX11_point_2 (by decide) ?_
  refine AW.invS3 (pc' := 7) dX11_point_4 mlX11_89 mX11_within (c_X11_within (dep := dep - 1) (by first | assumption | omega | (constructor <;> omega) | (simp only [Int.toNat_natCast]; omega) | exact b2_in _) (by first | assumption | omega | (constructor <;> omega) | (simp only [Int.toNat_natCast]; omega) | exact b2_in _) (by first | assumption | omega | (constructor <;> omega) | (simp only [Int.toNat_natCast]; omega) | exact b2_in _)) ?_
  refine AW.ifb_eq (tgt := 31) (pc' := 10) dX11_point_7 (fun c7 => ?_) (fun c7 => ?_)
  · refine AW.iconst (pc' := 32) dX11_point_31 ?_
    refine AW.iret dX11_point_32 ?_ ?_
    all_goals first | rfl | exact congrArg (fun z : Int => (some (vI z) : Option AV)) (b2_t (by omega)) | exact congrArg (fun z : Int => (some (vI z) : Option AV)) (b2_f (by omega)) | ((repeat' split) <;> first | rfl | omega) | (refine congrArg (fun z : Int => (some (vI z) : Option AV)) ?_; (repeat' split) <;> first | rfl | omega)
  · refine AW.iload_n (pc' := 11) dX11_point_10 rfl ?_
    refine AW.iconst (pc' := 12) dX11_point_11 ?_
    refine AW.bipush (pc' := 14) dX11_point_12 (by decide) ?_
    refine AW.invS3 (pc' := 17) dX11_point_14 mlX11_89 mX11_within (c_X11_within (dep := dep - 1) (by first | assumption | omega | (constructor <;> omega) | (simp only [Int.toNat_natCast]; omega) | exact b2_in _) (by first | assumption | omega | (constructor <;> omega) | (simp only [Int.toNat_natCast]; omega) | exact b2_in _) (by first | assumption | omega | (constructor <;> omega) | (simp only [Int.toNat_natCast]; omega) | exact b2_in _)) ?_
    refine AW.ifb_eq (tgt := 31) (pc' := 20) dX11_point_17 (fun c17 => ?_) (fun c17 => ?_)
    · refine AW.iconst (pc' := 32) dX11_point_31 ?_
      refine AW.iret dX11_point_32 ?_ ?_
      all_goals first | rfl | exact congrArg (fun z : Int => (some (vI z) : Option AV)) (b2_t (by omega)) | exact congrArg (fun z : Int => (some (vI z) : Option AV)) (b2_f (by omega)) | ((repeat' split) <;> first | rfl | omega) | (refine congrArg (fun z : Int => (some (vI z) : Option AV)) ?_; (repeat' split) <;> first | rfl | omega)
    · refine AW.aload_n (pc' := 21) dX11_point_20 rfl ?_
      refine AW.getR (pc' := 24) dX11_point_21 ly_0 fX11_67 rfl ?_
      refine AW.iload_n (pc' := 25) dX11_point_24 rfl ?_
      refine AW.invV1 (pc' := 28) dX11_point_25 mlX11_262 mX1_rises ly_40 rfl (c_X1_rises (dep := dep - 1) (by first | assumption | omega | (constructor <;> omega) | (simp only [Int.toNat_natCast]; omega) | exact b2_in _) (by first | assumption | omega | (constructor <;> omega) | (simp only [Int.toNat_natCast]; omega) | exact b2_in _)) ?_
      refine AW.ifb_ne (tgt := 33) (pc' := 31) dX11_point_28 (fun c28 => ?_) (fun c28 => ?_)
      · refine AW.aload_n (pc' := 34) dX11_point_33 rfl ?_
        refine AW.getR (pc' := 37) dX11_point_34 ly_0 fX11_67 rfl ?_
        refine AW.iload_n (pc' := 38) dX11_point_37 rfl ?_
        refine AW.iload_n (pc' := 39) dX11_point_38 rfl ?_
        refine AW.invV2 (pc' := 42) dX11_point_39 mlX11_265 mX1_come ly_40 rfl (c_X1_come (dep := dep - 1) (by first | assumption | omega | (constructor <;> omega) | (simp only [Int.toNat_natCast]; omega) | exact b2_in _) (by first | assumption | omega | (constructor <;> omega) | (simp only [Int.toNat_natCast]; omega) | exact b2_in _) (by first | assumption | omega | (constructor <;> omega) | (simp only [Int.toNat_natCast]; omega) | exact b2_in _)) ?_
        refine AW.iret dX11_point_42 ?_ ?_
        all_goals first | rfl | exact congrArg (fun z : Int => (some (vI z) : Option AV)) (b2_t (by omega)) | exact congrArg (fun z : Int => (some (vI z) : Option AV)) (b2_f (by omega)) | ((repeat' split) <;> first | rfl | omega) | (refine congrArg (fun z : Int => (some (vI z) : Option AV)) ?_; (repeat' split) <;> first | rfl | omega)
      · refine AW.iconst (pc' := 32) dX11_point_31 ?_
        refine AW.iret dX11_point_32 ?_ ?_
        all_goals first | rfl | exact congrArg (fun z : Int => (some (vI z) : Option AV)) (b2_t (by omega)) | exact congrArg (fun z : Int => (some (vI z) : Option AV)) (b2_f (by omega)) | ((repeat' split) <;> first | rfl | omega) | (refine congrArg (fun z : Int => (some (vI z) : Option AV)) ?_; (repeat' split) <;> first | rfl | omega)
