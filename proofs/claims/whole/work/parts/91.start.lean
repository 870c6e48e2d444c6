/-! THE START: the classes, the array classes, the statics -/
section ST0
variable {s : State} {args : Array Value}
theorem ws_arr {ty : FieldType} {c : ClassId} {kA : Class} {comp : ClassId} (h2 : s.vm.classes[c]? = some kA) (h3 : kA.kind = .array comp ty) : ArrOfT s c ty := fun n z => ⟨fun k h => (by cases h), kA, h2, comp, h3⟩
theorem ws_kn (hts : ∀ w ∈ wsL_law, w.before args s = true) (ho3 : (Cond.arrayOver (.array .byte)).before args s = true) (ho4 : (Cond.arrayOver (.array .long)).before args s = true) : ∃ (D : va_G) (cA : Nat → ClassId), va_K D vwCl (tysOf cA) s := by
  obtain ⟨c0, i0, k0⟩ := u_known (C := RX0) (T := TX0) (N := 4) (n := 4) hts inlX0 (hts _ ib_RX0)
  obtain ⟨c1, i1, k1⟩ := u_known (C := RX1) (T := TX1) (N := 3) (n := 3) hts inlX1 (hts _ ib_RX1)
  obtain ⟨c2, i2, k2⟩ := u_known (C := RX2) (T := TX2) (N := 5) (n := 5) hts inlX2 (hts _ ib_RX2)
  obtain ⟨c3, i3, k3⟩ := u_known (C := RX3) (T := TX3) (N := 8) (n := 8) hts inlX3 (hts _ ib_RX3)
  obtain ⟨c4, i4, k4⟩ := u_known (C := RX4) (T := TX4) (N := 2) (n := 2) hts inlX4 (hts _ ib_RX4)
  obtain ⟨c5, i5, k5⟩ := u_known (C := RX5) (T := TX5) (N := 10) (n := 10) hts inlX5 (hts _ ib_RX5)
  obtain ⟨c6, i6, k6⟩ := u_known (C := RX6) (T := TX6) (N := 5) (n := 5) hts inlX6 (hts _ ib_RX6)
  obtain ⟨c7, i7, k7⟩ := u_known (C := RX7) (T := TX7) (N := 11) (n := 11) hts inlX7 (hts _ ib_RX7)
  obtain ⟨c8, i8, k8⟩ := u_known (C := RX8) (T := TX8) (N := 4) (n := 4) hts inlX8 (hts _ ib_RX8)
  obtain ⟨c9, i9, k9⟩ := u_known (C := RX9) (T := TX9) (N := 4) (n := 4) hts inlX9 (hts _ ib_RX9)
  obtain ⟨c10, i10, k10⟩ := u_known (C := RX10) (T := TX10) (N := 4) (n := 4) hts inlX10 (hts _ ib_RX10)
  obtain ⟨c11, i11, k11⟩ := u_known (C := RX11) (T := TX11) (N := 11) (n := 11) hts inlX11 (hts _ ib_RX11)
  obtain ⟨c12, i12, k12⟩ := u_known (C := RX12) (T := TX12) (N := 59) (n := 59) hts inlX12 (hts _ ib_RX12)
  obtain ⟨a0, x0, p0, e0, f0, g0⟩ := Cond.arrayClass_spec (hts _ ac__int)
  obtain ⟨a1, x1, p1, e1, f1, g1⟩ := Cond.arrayClass_spec (hts _ ac__byte)
  obtain ⟨a2, x2, p2, e2, f2, g2⟩ := Cond.arrayClass_spec (hts _ ac__long)
  obtain ⟨p3, a3, x3, -, -, f3, g3, e3⟩ := arrayOverA_spec ho3
  obtain ⟨p4, a4, x4, -, -, f4, g4, e4⟩ := arrayOverA_spec ho4
  refine ⟨(fun k => [c0, c1, c2, c3, c4, c5, c6, c7, c8, c9, c10, c11, c12].getD k c0, fun k => [i0, i1, i2, i3, i4, i5, i6, i7, i8, i9, i10, i11, i12].getD k i0), fun k => [a0, a1, a2, a3, a4].getD k a0, fun k q hq => ?_, fun k q hq => ?_⟩
  · match k, hq with
    | 0, hq => cases hq; exact k0
    | 1, hq => cases hq; exact k1
    | 2, hq => cases hq; exact k2
    | 3, hq => cases hq; exact k3
    | 4, hq => cases hq; exact k4
    | 5, hq => cases hq; exact k5
    | 6, hq => cases hq; exact k6
    | 7, hq => cases hq; exact k7
    | 8, hq => cases hq; exact k8
    | 9, hq => cases hq; exact k9
    | 10, hq => cases hq; exact k10
    | 11, hq => cases hq; exact k11
    | 12, hq => cases hq; exact k12
    | k + 13, hq => simp [vwCl] at hq
  · match k, hq with
    | 0, hq => cases hq; exact ⟨ws_arr f0 g0, e0⟩
    | 1, hq => cases hq; exact ⟨ws_arr f1 g1, e1⟩
    | 2, hq => cases hq; exact ⟨ws_arr f2 g2, e2⟩
    | 3, hq => cases hq; exact ⟨ws_arr f3 g3, e3⟩
    | 4, hq => cases hq; exact ⟨ws_arr f4 g4, e4⟩
    | k + 5, hq => simp [tysOf] at hq
theorem ws_st {b : Nat} (hts : ∀ w ∈ lw_tbl, w.before #[Value.ref b] s = true) (hgv : (Jvm.Cond.and given_1 narrow_1).before #[Value.ref b] s = true) {A : Nat → Prop} (hA : ∀ a : Nat, a < s.heap.size → ¬ A a) : ∃ t0 t1 t2 t3 : Nat, ∀ K : KT, K.2.2.1 1000 = t0 → K.2.2.1 1001 = t1 → K.2.2.1 1002 = t2 → K.2.2.1 1003 = t3 → ST K A s := by
  have hs := flat_of_before _ hgv
  obtain ⟨t0, e0, T0⟩ := va_Tof (s := s) (args := #[Value.ref b]) (tm := .static RX0 "ABOVE" "[I") (ty := .int) (N := 8) (f := fun j => .int (Int32.ofInt (tAbove.getD j 0))) (A := A) (by decide) (hs _ (by decide +kernel)) (va_eqt (hs _ (by decide +kernel))) (fun j hj => va_eqt (hs _ ((by decide +kernel : ∀ j, j < 8 → Cond.eq (.elem (.static RX0 "ABOVE" "[I") (.int (Int32.ofNat j))) (.int (Int32.ofInt (tAbove.getD j 0))) ∈ flatC (Jvm.Cond.and given_1 narrow_1)) j hj))) hA
  have Z0 := va_Zof (v := .ref t0) (A := A) (hts (.laysStatic RX0 "ABOVE" "[I") (by decide +kernel)) (hts (.initialized RX0) (by decide +kernel)) e0 hA
  obtain ⟨t1, e1, T1⟩ := va_Tof (s := s) (args := #[Value.ref b]) (tm := .static RX0 "OWN" "[I") (ty := .int) (N := 32) (f := fun j => .int (Int32.ofInt (tOwn.getD j 0))) (A := A) (by decide) (hs _ (by decide +kernel)) (va_eqt (hs _ (by decide +kernel))) (fun j hj => va_eqt (hs _ ((by decide +kernel : ∀ j, j < 32 → Cond.eq (.elem (.static RX0 "OWN" "[I") (.int (Int32.ofNat j))) (.int (Int32.ofInt (tOwn.getD j 0))) ∈ flatC (Jvm.Cond.and given_1 narrow_1)) j hj))) hA
  have Z1 := va_Zof (v := .ref t1) (A := A) (hts (.laysStatic RX0 "OWN" "[I") (by decide +kernel)) (hts (.initialized RX0) (by decide +kernel)) e1 hA
  obtain ⟨adK, adV, hV, hE⟩ := vk_Sof (s := s) (args := #[Value.ref b]) (N := 1) (tm := fun _ => .string RX5 92) (len := [9]) (byt := [tNames]) (A := A) (by decide)
    (fun i hi => by obtain rfl : i = 0 := by omega
                    exact hs _ (by decide +kernel))
    (fun i hi => by obtain rfl : i = 0 := by omega
                    exact hs _ (by decide +kernel))
    (fun i hi => by obtain rfl : i = 0 := by omega
                    exact hs _ (by decide +kernel))
    (fun i hi => by obtain rfl : i = 0 := by omega
                    exact hs _ (by decide +kernel))
    (fun i hi j hj => by obtain rfl : i = 0 := by omega
                         exact hs _ ((by decide +kernel : ∀ j, j < 9 → Cond.eq (.elem (.field (.string RX5 92) "java/lang/String" "value" "[B") (.int (Int32.ofNat j))) (.int (tNames.getD j 0)) ∈ flatC (Jvm.Cond.and given_1 narrow_1)) j hj))
    (fun i j hi hj n => absurd (show i = j by omega) n) hA
  have R0 : vk_R RX5 92 "ftsypngkz" (adK 0) s := vk_R.of (hts (.stringRef RX5 92 "ftsypngkz") (by decide +kernel)) (hE 0 (by decide))
  have Z2 := va_Zof (v := .int 1) (A := A) (hts (.laysStatic "java/lang/String" "COMPACT_STRINGS" "Z") (by decide +kernel)) (hts (.initialized "java/lang/String") (by decide +kernel)) (va_eqt (hs _ (by decide +kernel))) hA
  have hN : ∀ q ∈ nestW, Cond.methodLinkNest q.1 q.2.1 q.2.2 "ThreeHundred" ∈ lw_tbl := by decide +kernel
  refine ⟨t0, t1, adK 0, adV 0, fun K r0 r1 r2 r3 => ?_⟩
  unfold ST
  rw [r0, r1, r2, r3]
  refine ⟨Z0, T0, Z1, T1, R0, ⟨fun i hi => ?_, fun i j hi hj _ => by omega⟩, Z2, fun q hq => va_Nw.of rfl (hts _ (hN q hq))⟩
  obtain rfl : i = 0 := by omega
  exact hV.1 0 hi
theorem ws_ct {b : Nat} (hts : ∀ w ∈ lw_tbl, w.before #[Value.ref b] s = true) : ct_O s := by
  have hN : ∀ q ∈ ctNest, Cond.methodLinkNest q.1 q.2.1 q.2.2 "ThreeHundred" ∈ lw_tbl := by decide +kernel
  have o1 := hts (.arrayOver (.array .byte)) (by decide +kernel)
  have o2 := hts (.arrayOver (.array .long)) (by decide +kernel)
  exact ⟨o1, o2, fun q hq => va_Nw.of rfl (hts _ (hN q hq))⟩
end ST0
