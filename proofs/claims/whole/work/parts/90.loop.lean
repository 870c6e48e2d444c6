/-! THE LAW'S LOOP -/
theorem lw_step {K : KT} {L : Nat} {xs : Nat → Int32} {i : Nat} {h : Hp} (hi : i + 6 ≤ L) (hL : L ≤ 384) (nx : LWK K L xs 18 (i + 6) [] h) : LWK K L xs 1391 i [] h :=
  AW.iinc (x := (i : Int)) (n := 6) (ls' := LL (i + 6)) dL_1391 rfl (by decide) rfl rfl (AW.goto dL_1394 nx)
theorem lw_loop {K : KT} {L : Nat} {xs : Nat → Int32} (hL : L ≤ 384) : ∀ (n i : Nat) (h : Hp), L ≤ i + n → i ≤ L → RLL h h → LWK K L xs 18 i [] h := by
  intro n
  induction n with
  | zero =>
    intro i h h1 h2 R
    refine AW.iload_n dL_18 rfl (AW.aload_n dL_19 rfl (AW.slen dL_20 (AW.bipush dL_21 (by decide) (AW.isub dL_23 ?_))))
    refine AW.icmp_gt dL_24 (by unfold inI; omega) (by unfold inI; omega) (fun _ => AW.iconst dL_1397 (AW.lend dL_1398)) (fun z => ?_)
    exfalso
    omega
  | succ n ih =>
    intro i h h1 h2 R
    refine AW.iload_n dL_18 rfl (AW.aload_n dL_19 rfl (AW.slen dL_20 (AW.bipush dL_21 (by decide) (AW.isub dL_23 ?_))))
    refine AW.icmp_gt dL_24 (by unfold inI; omega) (by unfold inI; omega) (fun _ => AW.iconst dL_1397 (AW.lend dL_1398)) (fun z => ?_)
    have hi : i + 6 ≤ L := by omega
    have nx : ∀ h2 : Hp, RLL h2 h2 → LWK K L xs 1391 i [] h2 := fun h2 R2 => lw_step hi hL (ih (i + 6) h2 (by omega) hi R2)
    refine AW.aload_n dL_27 rfl (AW.iload_n dL_28 rfl (AW.sld (n := i) dL_29 rfl (by omega) hL (AW.bipush dL_30 (by decide) (AW.iand dL_32 ?_))))
    have hx := in32 (Int32.ofInt (xs i).toInt &&& Int32.ofInt 63)
    generalize (Int32.ofInt (xs i).toInt &&& Int32.ofInt 63).toInt = x at hx ⊢
    by_cases c : x < 0 ∨ 35 < x
    · exact AW.tableOut dL_33 hx c (nx h R)
    · have hc : x = 0 ∨ x = 1 ∨ x = 2 ∨ x = 3 ∨ x = 4 ∨ x = 5 ∨ x = 6 ∨ x = 7 ∨ x = 8 ∨ x = 9 ∨ x = 10 ∨ x = 11 ∨ x = 12 ∨ x = 13 ∨ x = 14 ∨ x = 15 ∨ x = 16 ∨ x = 17 ∨ x = 18 ∨ x = 19 ∨ x = 20 ∨ x = 21 ∨ x = 22 ∨ x = 23 ∨ x = 24 ∨ x = 25 ∨ x = 26 ∨ x = 27 ∨ x = 28 ∨ x = 29 ∨ x = 30 ∨ x = 31 ∨ x = 32 ∨ x = 33 ∨ x = 34 ∨ x = 35 := by omega
      rcases hc with rfl | rfl | rfl | rfl | rfl | rfl | rfl | rfl | rfl | rfl | rfl | rfl | rfl | rfl | rfl | rfl | rfl | rfl | rfl | rfl | rfl | rfl | rfl | rfl | rfl | rfl | rfl | rfl | rfl | rfl | rfl | rfl | rfl | rfl | rfl | rfl
      · exact AW.tableIn (off := 159) (tgt := 192) dL_33 hx (by decide) (by decide) rfl (lc_0 hi hL R nx)
      · exact AW.tableIn (off := 192) (tgt := 225) dL_33 hx (by decide) (by decide) rfl (lc_1 hi hL R nx)
      · exact AW.tableIn (off := 235) (tgt := 268) dL_33 hx (by decide) (by decide) rfl (lc_2 hi hL R nx)
      · exact AW.tableIn (off := 258) (tgt := 291) dL_33 hx (by decide) (by decide) rfl (lc_3 hi hL R nx)
      · exact AW.tableIn (off := 301) (tgt := 334) dL_33 hx (by decide) (by decide) rfl (lc_4 hi hL R nx)
      · exact AW.tableIn (off := 344) (tgt := 377) dL_33 hx (by decide) (by decide) rfl (lc_5 hi hL R nx)
      · exact AW.tableIn (off := 377) (tgt := 410) dL_33 hx (by decide) (by decide) rfl (lc_6 hi hL R nx)
      · exact AW.tableIn (off := 420) (tgt := 453) dL_33 hx (by decide) (by decide) rfl (lc_7 hi hL R nx)
      · exact AW.tableIn (off := 453) (tgt := 486) dL_33 hx (by decide) (by decide) rfl (lc_8 hi hL R nx)
      · exact AW.tableIn (off := 466) (tgt := 499) dL_33 hx (by decide) (by decide) rfl (lc_9 hi hL R nx)
      · exact AW.tableIn (off := 489) (tgt := 522) dL_33 hx (by decide) (by decide) rfl (lc_10 hi hL R nx)
      · exact AW.tableIn (off := 542) (tgt := 575) dL_33 hx (by decide) (by decide) rfl (lc_11 hi hL R nx)
      · exact AW.tableIn (off := 575) (tgt := 608) dL_33 hx (by decide) (by decide) rfl (lc_12 hi hL R nx)
      · exact AW.tableIn (off := 598) (tgt := 631) dL_33 hx (by decide) (by decide) rfl (lc_13 hi hL R nx)
      · exact AW.tableIn (off := 631) (tgt := 664) dL_33 hx (by decide) (by decide) rfl (lc_14 hi hL R nx)
      · exact AW.tableIn (off := 654) (tgt := 687) dL_33 hx (by decide) (by decide) rfl (lc_15 hi hL R nx)
      · exact AW.tableIn (off := 697) (tgt := 730) dL_33 hx (by decide) (by decide) rfl (lc_16 hi hL R nx)
      · exact AW.tableIn (off := 710) (tgt := 743) dL_33 hx (by decide) (by decide) rfl (lc_17 hi hL R nx)
      · exact AW.tableIn (off := 743) (tgt := 776) dL_33 hx (by decide) (by decide) rfl (lc_18 hi hL R nx)
      · exact AW.tableIn (off := 776) (tgt := 809) dL_33 hx (by decide) (by decide) rfl (lc_19 hi hL R nx)
      · exact AW.tableIn (off := 819) (tgt := 852) dL_33 hx (by decide) (by decide) rfl (lc_20 hi hL R nx)
      · exact AW.tableIn (off := 862) (tgt := 895) dL_33 hx (by decide) (by decide) rfl (lc_21 hi hL R nx)
      · exact AW.tableIn (off := 885) (tgt := 918) dL_33 hx (by decide) (by decide) rfl (lc_22 hi hL R nx)
      · exact AW.tableIn (off := 918) (tgt := 951) dL_33 hx (by decide) (by decide) rfl (lc_23 hi hL R nx)
      · exact AW.tableIn (off := 941) (tgt := 974) dL_33 hx (by decide) (by decide) rfl (lc_24 hi hL R nx)
      · exact AW.tableIn (off := 954) (tgt := 987) dL_33 hx (by decide) (by decide) rfl (lc_25 hi hL R nx)
      · exact AW.tableIn (off := 967) (tgt := 1000) dL_33 hx (by decide) (by decide) rfl (lc_26 hi hL R nx)
      · exact AW.tableIn (off := 990) (tgt := 1023) dL_33 hx (by decide) (by decide) rfl (lc_27 hi hL R nx)
      · exact AW.tableIn (off := 1033) (tgt := 1066) dL_33 hx (by decide) (by decide) rfl (lc_28 hi hL R nx)
      · exact AW.tableIn (off := 1056) (tgt := 1089) dL_33 hx (by decide) (by decide) rfl (lc_29 hi hL R nx)
      · exact AW.tableIn (off := 1089) (tgt := 1122) dL_33 hx (by decide) (by decide) rfl (lc_30 hi hL R nx)
      · exact AW.tableIn (off := 1132) (tgt := 1165) dL_33 hx (by decide) (by decide) rfl (lc_31 hi hL R nx)
      · exact AW.tableIn (off := 1205) (tgt := 1238) dL_33 hx (by decide) (by decide) rfl (lc_32 hi hL R nx)
      · exact AW.tableIn (off := 1239) (tgt := 1272) dL_33 hx (by decide) (by decide) rfl (lc_33 hi hL R nx)
      · exact AW.tableIn (off := 1302) (tgt := 1335) dL_33 hx (by decide) (by decide) rfl (lc_34 hi hL R nx)
      · exact AW.tableIn (off := 1335) (tgt := 1368) dL_33 hx (by decide) (by decide) rfl (lc_35 hi hL R nx)
