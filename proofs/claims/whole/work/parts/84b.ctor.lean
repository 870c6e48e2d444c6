/-! constructors -/
set_option maxHeartbeats 8000000 in
set_option maxRecDepth 100000 in
theorem k_X10_init (l : Launch) (D : va_G) (cA : Nat → ClassId) (h0 : Nat) (sz : Nat) : Met l yX10_init (.code yX10_init cX10_init 1 none :: wsL_law) ({ frames := 2, cells := 0, slots := 0, locals := 64 }) (va_Pc [.ref h0] (fun U => U.heap.size = sz ∧ va_P D vwCl [(h0, .inr (10, [.long (Int64.ofInt 0), .long (Int64.ofInt 0), .int (Int32.ofInt 0), .int (Int32.ofInt 0)]))] U.heap ∧ va_K D vwCl (tysOf cA) U ∧ ct_O U ∧ va_D (fun _ => True) [(h0, .inr (10, [.long (Int64.ofInt 0), .long (Int64.ofInt 0), .int (Int32.ofInt 0), .int (Int32.ofInt 0)]))])) (va_Qv (fun _ : Unit => True) (fun _ t => ∃ f : Nat → Nat, va_P D vwCl [(h0, .inr (10, [.long (Int64.ofInt 0), .long (Int64.ofInt 0), .int (Int32.ofInt 0), .int (Int32.ofInt 0)]))] t.heap ∧ va_D (va_A [(h0, .inr (10, [.long (Int64.ofInt 0), .long (Int64.ofInt 0), .int (Int32.ofInt 0), .int (Int32.ofInt 0)]))] sz) [(h0, .inr (10, [.long (Int64.ofInt 0), .long (Int64.ofInt 0), .int (Int32.ofInt 0), .int (Int32.ofInt 0)]))]) (va_A [(h0, .inr (10, [.long (Int64.ofInt 0), .long (Int64.ofInt 0), .int (Int32.ofInt 0), .int (Int32.ofInt 0)]))] sz)) 0 0 (va_A [(h0, .inr (10, [.long (Int64.ofInt 0), .long (Int64.ofInt 0), .int (Int32.ofInt 0), .int (Int32.ofInt 0)]))] sz) := by
  refine Met.ofW (cc := cX10_init) (maxL := 1) (ret := none) (by decide +kernel) rfl ?_
  intro p e s m args below meth c s₁ B hml hv
  obtain ⟨rfl, hsz, hP, hK, hO, hD0⟩ := hv
  have hx := B.exec
  have hb := B.bytes
  have hr := B.returns
  have hts := atoms_spec (ws := .code yX10_init cX10_init 1 none :: wsL_law) B.pre
  have ht : ∀ w ∈ wsL_law, w.before _ s = true := fun w hw => hts w (List.mem_cons_of_mem _ hw)
  have hown : s.vm.findClass RX10 = some m.cls := findClass_of_methodNamed B.named
  have hlocks := B.notSynchronized
  have hin : meth.name = "<init>" := (name_of_methodNamed B.named B.method).1
  subst hsz
  have hD := hD0.self (sz := s.heap.size)
  generalize hAe : va_A [(h0, .inr (10, [.long (Int64.ofInt 0), .long (Int64.ofInt 0), .int (Int32.ofInt 0), .int (Int32.ofInt 0)]))] s.heap.size = A at hD ⊢
  have hA : ∀ q : Nat, s.heap.size ≤ q → A q := fun q h => by rw [← hAe]; exact Or.inr h
  have hS : va_S A s.heap s.heap [] := va_S.rf
  have hP : va_P D vwCl [(h0, .inr (10, [.long (Int64.ofInt 0), .long (Int64.ofInt 0), .int (Int32.ofInt 0), .int (Int32.ofInt 0)]))] s.heap := hP
  have hl := lv_entry ([.ref h0]) (n := 1) (Nat.le_of_ble_eq_true rfl)
  rw [lg_entry_eq]
  generalize (lg_sl ([.ref h0]) ++ List.replicate (1 - (lg_sl ([.ref h0])).length) Slot.unset).toArray = ls at hl ⊢
  have hl : lv_has ls 1 [(0, .ref h0)] := hl
  refine lv_aload_n hx hb dX10_init_0 rfl (lv_at hl 0 rfl) ?_
  refine W.objInit hx hb hown (ht _ mlX10_3) (ht _ im_objectInit) (ht _ cd_objectInit) rfl (by rw [hml]; exact hl.1) rfl dX10_init_1 (Nat.le_of_ble_eq_true rfl) (Nat.le_of_ble_eq_true rfl) ?_
  refine W.eq (g2 := F0 m 4 ls []) rfl ?_
  have hP9 := hP.sub (ws' := [(h0, .inr (10, [.long (Int64.ofInt 0), .long (Int64.ofInt 0), .int (Int32.ofInt 0), .int (Int32.ofInt 0)]))]) [0] rfl
  have hD9 := hD.sub (ws' := [(h0, .inr (10, [.long (Int64.ofInt 0), .long (Int64.ofInt 0), .int (Int32.ofInt 0), .int (Int32.ofInt 0)]))]) [0] (by decide) rfl
  exact W.vret hx hb hr (fun t ht2 hW => ⟨⟨(), rfl, trivial, fun i => [].getD i 0, by rw [ht2]; exact hP9, hD9⟩, hS.F ht2⟩) hS.2.2 dX10_init_4
set_option maxHeartbeats 8000000 in
set_option maxRecDepth 100000 in
theorem k_X2_init (l : Launch) (D : va_G) (cA : Nat → ClassId) (h0 : Nat) (a1 : Nat) (sz : Nat) : Met l yX2_init (.code yX2_init cX2_init 2 none :: wsL_law) ({ frames := 4, cells := 4, slots := 24, locals := 128 }) (va_Pc [.ref h0, .ref a1] (fun U => U.heap.size = sz ∧ va_P D vwCl [(h0, .inr (2, [.null, .null, .null, .null, .null]))] U.heap ∧ va_K D vwCl (tysOf cA) U ∧ ct_O U ∧ va_D (fun _ => True) [(h0, .inr (2, [.null, .null, .null, .null, .null]))])) (va_Qv (fun _ : Unit => True) (fun _ t => ∃ f : Nat → Nat, va_P D vwCl [(h0, .inr (2, [.ref a1, .ref (f 0), .ref (f 1), .ref (f 2), .ref (f 3)])), (f 0, .inr (10, [.long (Int64.ofInt 0), .long (Int64.ofInt 0), .int (Int32.ofInt 0), .int (Int32.ofInt 0)])), (f 1, .inl (cA 2, 4, .inr (.inl (fun _ => Int64.ofInt 0)))), (f 2, .inl (cA 0, 4, .inl (fun _ => Int32.ofInt 0))), (f 3, .inl (cA 0, 12, .inl (fun _ => Int32.ofInt 0)))] t.heap ∧ va_D (va_A [(h0, .inr (2, [.null, .null, .null, .null, .null]))] sz) [(h0, .inr (2, [.ref a1, .ref (f 0), .ref (f 1), .ref (f 2), .ref (f 3)])), (f 0, .inr (10, [.long (Int64.ofInt 0), .long (Int64.ofInt 0), .int (Int32.ofInt 0), .int (Int32.ofInt 0)])), (f 1, .inl (cA 2, 4, .inr (.inl (fun _ => Int64.ofInt 0)))), (f 2, .inl (cA 0, 4, .inl (fun _ => Int32.ofInt 0))), (f 3, .inl (cA 0, 12, .inl (fun _ => Int32.ofInt 0)))]) (va_A [(h0, .inr (2, [.null, .null, .null, .null, .null]))] sz)) 4 24 (va_A [(h0, .inr (2, [.null, .null, .null, .null, .null]))] sz) := by
  refine Met.ofW (cc := cX2_init) (maxL := 2) (ret := none) (by decide +kernel) rfl ?_
  intro p e s m args below meth c s₁ B hml hv
  obtain ⟨rfl, hsz, hP, hK, hO, hD0⟩ := hv
  have hx := B.exec
  have hb := B.bytes
  have hr := B.returns
  have hts := atoms_spec (ws := .code yX2_init cX2_init 2 none :: wsL_law) B.pre
  have ht : ∀ w ∈ wsL_law, w.before _ s = true := fun w hw => hts w (List.mem_cons_of_mem _ hw)
  have hown : s.vm.findClass RX2 = some m.cls := findClass_of_methodNamed B.named
  have hlocks := B.notSynchronized
  have hin : meth.name = "<init>" := (name_of_methodNamed B.named B.method).1
  subst hsz
  have hD := hD0.self (sz := s.heap.size)
  generalize hAe : va_A [(h0, .inr (2, [.null, .null, .null, .null, .null]))] s.heap.size = A at hD ⊢
  have hA : ∀ q : Nat, s.heap.size ≤ q → A q := fun q h => by rw [← hAe]; exact Or.inr h
  have hS : va_S A s.heap s.heap [] := va_S.rf
  have hP : va_P D vwCl [(h0, .inr (2, [.null, .null, .null, .null, .null]))] s.heap := hP
  have hl := lv_entry ([.ref h0, .ref a1]) (n := 2) (Nat.le_of_ble_eq_true rfl)
  rw [lg_entry_eq]
  generalize (lg_sl ([.ref h0, .ref a1]) ++ List.replicate (2 - (lg_sl ([.ref h0, .ref a1])).length) Slot.unset).toArray = ls at hl ⊢
  have hl : lv_has ls 2 [(0, .ref h0), (1, .ref a1)] := hl
  refine lv_aload_n hx hb dX2_init_0 rfl (lv_at hl 0 rfl) ?_
  refine W.objInit hx hb hown (ht _ mlX2_3) (ht _ im_objectInit) (ht _ cd_objectInit) rfl (by rw [hml]; exact hl.1) rfl dX2_init_1 (Nat.le_of_ble_eq_true rfl) (Nat.le_of_ble_eq_true rfl) ?_
  refine W.eq (g2 := F0 m 4 ls []) rfl ?_
  refine lv_aload_n hx hb dX2_init_4 rfl (lv_at hl 0 rfl) ?_
  refine va_new (ci := 10) (fs := [.long (Int64.ofInt 0), .long (Int64.ofInt 0), .int (Int32.ofInt 0), .int (Int32.ofInt 0)]) (C := RX10) (T := TX10) (N := 4) hx hb ht inlX10 tyX10 tyX10_ok hown (ht _ clX2_9) (ht _ ib_RX10) (ht _ ii_RX10) hK hP hD hS hA rfl (fun j hj => ct_dv_10 j hj) (Nat.le_of_ble_eq_true rfl) (Nat.le_of_ble_eq_true rfl) dX2_init_5 (fun q5 H hP hD hS => ?_)
  have hP : va_P D vwCl [(h0, .inr (2, [.null, .null, .null, .null, .null])), (q5, .inr (10, [.long (Int64.ofInt 0), .long (Int64.ofInt 0), .int (Int32.ofInt 0), .int (Int32.ofInt 0)]))] H := hP
  have hD : va_D A [(h0, .inr (2, [.null, .null, .null, .null, .null])), (q5, .inr (10, [.long (Int64.ofInt 0), .long (Int64.ofInt 0), .int (Int32.ofInt 0), .int (Int32.ofInt 0)]))] := hD
  refine W.widen (k := 1) (n := 4) (by omega) (by omega) ?_
  refine lv_dup hx hb dX2_init_8 rfl ?_
  have hPc := hP.sub (ws' := [(q5, .inr (10, [.long (Int64.ofInt 0), .long (Int64.ofInt 0), .int (Int32.ofInt 0), .int (Int32.ofInt 0)]))]) [1] rfl
  have hDc := hD.sub (ws' := [(q5, .inr (10, [.long (Int64.ofInt 0), .long (Int64.ofInt 0), .int (Int32.ofInt 0), .int (Int32.ofInt 0)]))]) [1] (by decide) rfl
  have hFc := va_free (wc := [(q5, .inr (10, [.long (Int64.ofInt 0), .long (Int64.ofInt 0), .int (Int32.ofInt 0), .int (Int32.ofInt 0)]))]) hD hS hA [1] rfl
  refine va_callv (va_runIN (As := []) (rest := [.ref q5, .ref h0]) ⟨hx, hb, hml, hown, hts⟩ (k_X10_init l D cA q5 H.size) ⟨va_cnB 0 hts (gd_ct cd_yX10_init) rfl rfl rfl (hO.2.2 _ (List.mem_cons_of_mem _ (List.mem_cons_of_mem _ (List.mem_cons_of_mem _ (List.mem_cons_of_mem _ (List.mem_cons_of_mem _ (List.mem_cons_self))))))) (ht _ ii_RX10) (by decide +kernel) ⟨Nat.le_of_ble_eq_true rfl, Nat.le_of_ble_eq_true rfl⟩, rfl, ht _ im_yX10_init⟩ ⟨ct_blind, fun U hU hW => ⟨rfl, by rw [hU], by rw [hU]; exact hPc, va_K.moved hW.alike hK, ct_over hW hO, hDc.weaken (fun _ _ _ _ => trivial)⟩⟩ rfl rfl hl.1 rfl (lv_room (Nat.le_of_ble_eq_true rfl)) dX2_init_9 ⟨Nat.le_of_ble_eq_true rfl, Nat.le_of_ble_eq_true rfl⟩) hS (fun q _ h => hFc q h) hFc (fun u t H1 locs ht1 hvm hw hB hz1 hk1 hS => ?_)
  obtain ⟨f9, hP1, hD1⟩ := hB
  rw [ht1] at hP1
  obtain ⟨hP, hD⟩ := va_join (wr := [(h0, .inr (2, [.null, .null, .null, .null, .null]))]) (w1 := [(q5, .inr (10, [.long (Int64.ofInt 0), .long (Int64.ofInt 0), .int (Int32.ofInt 0), .int (Int32.ofInt 0)]))]) hP hD [1] [0] rfl rfl (by decide) (by decide) hk1 hFc hP1 hD1
  generalize H1 = H at hP hS ⊢
  have hP : va_P D vwCl [(h0, .inr (2, [.null, .null, .null, .null, .null])), (q5, .inr (10, [.long (Int64.ofInt 0), .long (Int64.ofInt 0), .int (Int32.ofInt 0), .int (Int32.ofInt 0)]))] H := hP
  have hD : va_D A [(h0, .inr (2, [.null, .null, .null, .null, .null])), (q5, .inr (10, [.long (Int64.ofInt 0), .long (Int64.ofInt 0), .int (Int32.ofInt 0), .int (Int32.ofInt 0)]))] := hD
  refine W.widen (k := 1) (n := 4) (by omega) (by omega) ?_
  refine va_putF (D := D) (ci := 2) (v := .ref q5) (ty := (.object "ThreeHundred$Tally")) (C := RX2) (T := TX2) (N := 5) (ref := RX2) hx hb ht inlX2 tyX2 tyX2_ok nmX2 hown hK hP hD hS 0 rfl rfl 1 (by decide) (ht _ lkX2_12) (fun _ h9 => h9) rfl hin rfl (by decide +kernel) rfl rfl (Nat.le_of_ble_eq_true rfl) dX2_init_12 (fun H locs hP hD hS => ?_)
  have hP : va_P D vwCl [(h0, .inr (2, [.null, .ref q5, .null, .null, .null])), (q5, .inr (10, [.long (Int64.ofInt 0), .long (Int64.ofInt 0), .int (Int32.ofInt 0), .int (Int32.ofInt 0)]))] H := hP
  have hD : va_D A [(h0, .inr (2, [.null, .ref q5, .null, .null, .null])), (q5, .inr (10, [.long (Int64.ofInt 0), .long (Int64.ofInt 0), .int (Int32.ofInt 0), .int (Int32.ofInt 0)]))] := hD
  refine lv_aload_n hx hb dX2_init_15 rfl (lv_at hl 0 rfl) ?_
  refine lv_iconst (v := Int32.ofInt (4)) hx hb dX2_init_16 rfl ?_
  refine cw_newa (atype := .long) (ty := .long) (a0 := (4, .inr (.inl (fun _ => Int64.ofInt 0)))) (t0 := 2) (c1 := cA 2) (N' := 4) hx hb (ht _ ac__long) rfl hK hP hD hS hA (fun _ => rfl) (by decide) (by decide) (Nat.le_of_ble_eq_true rfl) (Nat.le_of_ble_eq_true rfl) (Nat.le_of_ble_eq_true rfl) dX2_init_17 rfl (fun q17 H hP hD hS => ?_)
  have hP : va_P D vwCl [(h0, .inr (2, [.null, .ref q5, .null, .null, .null])), (q5, .inr (10, [.long (Int64.ofInt 0), .long (Int64.ofInt 0), .int (Int32.ofInt 0), .int (Int32.ofInt 0)])), (q17, .inl (cA 2, 4, .inr (.inl (fun _ => Int64.ofInt 0))))] H := hP
  have hD : va_D A [(h0, .inr (2, [.null, .ref q5, .null, .null, .null])), (q5, .inr (10, [.long (Int64.ofInt 0), .long (Int64.ofInt 0), .int (Int32.ofInt 0), .int (Int32.ofInt 0)])), (q17, .inl (cA 2, 4, .inr (.inl (fun _ => Int64.ofInt 0))))] := hD
  refine W.widen (k := 2) (n := 8) (by omega) (by omega) ?_
  refine va_putF (D := D) (ci := 2) (v := .ref q17) (ty := (.array .long)) (C := RX2) (T := TX2) (N := 5) (ref := RX2) hx hb ht inlX2 tyX2 tyX2_ok nmX2 hown hK hP hD hS 0 rfl rfl 2 (by decide) (ht _ lkX2_18) (fun _ h9 => h9) rfl hin rfl (by decide +kernel) rfl rfl (Nat.le_of_ble_eq_true rfl) dX2_init_19 (fun H locs hP hD hS => ?_)
  have hP : va_P D vwCl [(h0, .inr (2, [.null, .ref q5, .ref q17, .null, .null])), (q5, .inr (10, [.long (Int64.ofInt 0), .long (Int64.ofInt 0), .int (Int32.ofInt 0), .int (Int32.ofInt 0)])), (q17, .inl (cA 2, 4, .inr (.inl (fun _ => Int64.ofInt 0))))] H := hP
  have hD : va_D A [(h0, .inr (2, [.null, .ref q5, .ref q17, .null, .null])), (q5, .inr (10, [.long (Int64.ofInt 0), .long (Int64.ofInt 0), .int (Int32.ofInt 0), .int (Int32.ofInt 0)])), (q17, .inl (cA 2, 4, .inr (.inl (fun _ => Int64.ofInt 0))))] := hD
  refine lv_aload_n hx hb dX2_init_22 rfl (lv_at hl 0 rfl) ?_
  refine lv_iconst (v := Int32.ofInt (4)) hx hb dX2_init_23 rfl ?_
  refine cw_newa (atype := .int) (ty := .int) (a0 := (4, .inl (fun _ => Int32.ofInt 0))) (t0 := 0) (c1 := cA 0) (N' := 4) hx hb (ht _ ac__int) rfl hK hP hD hS hA (fun _ => rfl) (by decide) (by decide) (Nat.le_of_ble_eq_true rfl) (Nat.le_of_ble_eq_true rfl) (Nat.le_of_ble_eq_true rfl) dX2_init_24 rfl (fun q24 H hP hD hS => ?_)
  have hP : va_P D vwCl [(h0, .inr (2, [.null, .ref q5, .ref q17, .null, .null])), (q5, .inr (10, [.long (Int64.ofInt 0), .long (Int64.ofInt 0), .int (Int32.ofInt 0), .int (Int32.ofInt 0)])), (q17, .inl (cA 2, 4, .inr (.inl (fun _ => Int64.ofInt 0)))), (q24, .inl (cA 0, 4, .inl (fun _ => Int32.ofInt 0)))] H := hP
  have hD : va_D A [(h0, .inr (2, [.null, .ref q5, .ref q17, .null, .null])), (q5, .inr (10, [.long (Int64.ofInt 0), .long (Int64.ofInt 0), .int (Int32.ofInt 0), .int (Int32.ofInt 0)])), (q17, .inl (cA 2, 4, .inr (.inl (fun _ => Int64.ofInt 0)))), (q24, .inl (cA 0, 4, .inl (fun _ => Int32.ofInt 0)))] := hD
  refine W.widen (k := 3) (n := 12) (by omega) (by omega) ?_
  refine va_putF (D := D) (ci := 2) (v := .ref q24) (ty := (.array .int)) (C := RX2) (T := TX2) (N := 5) (ref := RX2) hx hb ht inlX2 tyX2 tyX2_ok nmX2 hown hK hP hD hS 0 rfl rfl 3 (by decide) (ht _ lkX2_22) (fun _ h9 => h9) rfl hin rfl (by decide +kernel) rfl rfl (Nat.le_of_ble_eq_true rfl) dX2_init_26 (fun H locs hP hD hS => ?_)
  have hP : va_P D vwCl [(h0, .inr (2, [.null, .ref q5, .ref q17, .ref q24, .null])), (q5, .inr (10, [.long (Int64.ofInt 0), .long (Int64.ofInt 0), .int (Int32.ofInt 0), .int (Int32.ofInt 0)])), (q17, .inl (cA 2, 4, .inr (.inl (fun _ => Int64.ofInt 0)))), (q24, .inl (cA 0, 4, .inl (fun _ => Int32.ofInt 0)))] H := hP
  have hD : va_D A [(h0, .inr (2, [.null, .ref q5, .ref q17, .ref q24, .null])), (q5, .inr (10, [.long (Int64.ofInt 0), .long (Int64.ofInt 0), .int (Int32.ofInt 0), .int (Int32.ofInt 0)])), (q17, .inl (cA 2, 4, .inr (.inl (fun _ => Int64.ofInt 0)))), (q24, .inl (cA 0, 4, .inl (fun _ => Int32.ofInt 0)))] := hD
  refine lv_aload_n hx hb dX2_init_29 rfl (lv_at hl 0 rfl) ?_
  refine lv_bipush (v := Int32.ofInt (12)) hx hb dX2_init_30 (by decide) ?_
  refine cw_newa (atype := .int) (ty := .int) (a0 := (12, .inl (fun _ => Int32.ofInt 0))) (t0 := 0) (c1 := cA 0) (N' := 12) hx hb (ht _ ac__int) rfl hK hP hD hS hA (fun _ => rfl) (by decide) (by decide) (Nat.le_of_ble_eq_true rfl) (Nat.le_of_ble_eq_true rfl) (Nat.le_of_ble_eq_true rfl) dX2_init_32 rfl (fun q32 H hP hD hS => ?_)
  have hP : va_P D vwCl [(h0, .inr (2, [.null, .ref q5, .ref q17, .ref q24, .null])), (q5, .inr (10, [.long (Int64.ofInt 0), .long (Int64.ofInt 0), .int (Int32.ofInt 0), .int (Int32.ofInt 0)])), (q17, .inl (cA 2, 4, .inr (.inl (fun _ => Int64.ofInt 0)))), (q24, .inl (cA 0, 4, .inl (fun _ => Int32.ofInt 0))), (q32, .inl (cA 0, 12, .inl (fun _ => Int32.ofInt 0)))] H := hP
  have hD : va_D A [(h0, .inr (2, [.null, .ref q5, .ref q17, .ref q24, .null])), (q5, .inr (10, [.long (Int64.ofInt 0), .long (Int64.ofInt 0), .int (Int32.ofInt 0), .int (Int32.ofInt 0)])), (q17, .inl (cA 2, 4, .inr (.inl (fun _ => Int64.ofInt 0)))), (q24, .inl (cA 0, 4, .inl (fun _ => Int32.ofInt 0))), (q32, .inl (cA 0, 12, .inl (fun _ => Int32.ofInt 0)))] := hD
  refine W.widen (k := 4) (n := 24) (by omega) (by omega) ?_
  refine va_putF (D := D) (ci := 2) (v := .ref q32) (ty := (.array .int)) (C := RX2) (T := TX2) (N := 5) (ref := RX2) hx hb ht inlX2 tyX2 tyX2_ok nmX2 hown hK hP hD hS 0 rfl rfl 4 (by decide) (ht _ lkX2_26) (fun _ h9 => h9) rfl hin rfl (by decide +kernel) rfl rfl (Nat.le_of_ble_eq_true rfl) dX2_init_34 (fun H locs hP hD hS => ?_)
  have hP : va_P D vwCl [(h0, .inr (2, [.null, .ref q5, .ref q17, .ref q24, .ref q32])), (q5, .inr (10, [.long (Int64.ofInt 0), .long (Int64.ofInt 0), .int (Int32.ofInt 0), .int (Int32.ofInt 0)])), (q17, .inl (cA 2, 4, .inr (.inl (fun _ => Int64.ofInt 0)))), (q24, .inl (cA 0, 4, .inl (fun _ => Int32.ofInt 0))), (q32, .inl (cA 0, 12, .inl (fun _ => Int32.ofInt 0)))] H := hP
  have hD : va_D A [(h0, .inr (2, [.null, .ref q5, .ref q17, .ref q24, .ref q32])), (q5, .inr (10, [.long (Int64.ofInt 0), .long (Int64.ofInt 0), .int (Int32.ofInt 0), .int (Int32.ofInt 0)])), (q17, .inl (cA 2, 4, .inr (.inl (fun _ => Int64.ofInt 0)))), (q24, .inl (cA 0, 4, .inl (fun _ => Int32.ofInt 0))), (q32, .inl (cA 0, 12, .inl (fun _ => Int32.ofInt 0)))] := hD
  refine lv_aload_n hx hb dX2_init_37 rfl (lv_at hl 0 rfl) ?_
  refine lv_aload_n hx hb dX2_init_38 rfl (lv_at hl 1 rfl) ?_
  refine va_putF (D := D) (ci := 2) (v := .ref a1) (ty := (.object "ThreeHundred$Runs")) (C := RX2) (T := TX2) (N := 5) (ref := RX2) hx hb ht inlX2 tyX2 tyX2_ok nmX2 hown hK hP hD hS 0 rfl rfl 0 (by decide) (ht _ lkX2_29) (fun _ h9 => h9) rfl hin rfl (by decide +kernel) rfl rfl (Nat.le_of_ble_eq_true rfl) dX2_init_39 (fun H locs hP hD hS => ?_)
  have hP : va_P D vwCl [(h0, .inr (2, [.ref a1, .ref q5, .ref q17, .ref q24, .ref q32])), (q5, .inr (10, [.long (Int64.ofInt 0), .long (Int64.ofInt 0), .int (Int32.ofInt 0), .int (Int32.ofInt 0)])), (q17, .inl (cA 2, 4, .inr (.inl (fun _ => Int64.ofInt 0)))), (q24, .inl (cA 0, 4, .inl (fun _ => Int32.ofInt 0))), (q32, .inl (cA 0, 12, .inl (fun _ => Int32.ofInt 0)))] H := hP
  have hD : va_D A [(h0, .inr (2, [.ref a1, .ref q5, .ref q17, .ref q24, .ref q32])), (q5, .inr (10, [.long (Int64.ofInt 0), .long (Int64.ofInt 0), .int (Int32.ofInt 0), .int (Int32.ofInt 0)])), (q17, .inl (cA 2, 4, .inr (.inl (fun _ => Int64.ofInt 0)))), (q24, .inl (cA 0, 4, .inl (fun _ => Int32.ofInt 0))), (q32, .inl (cA 0, 12, .inl (fun _ => Int32.ofInt 0)))] := hD
  have hP9 := hP.sub (ws' := [(h0, .inr (2, [.ref a1, .ref q5, .ref q17, .ref q24, .ref q32])), (q5, .inr (10, [.long (Int64.ofInt 0), .long (Int64.ofInt 0), .int (Int32.ofInt 0), .int (Int32.ofInt 0)])), (q17, .inl (cA 2, 4, .inr (.inl (fun _ => Int64.ofInt 0)))), (q24, .inl (cA 0, 4, .inl (fun _ => Int32.ofInt 0))), (q32, .inl (cA 0, 12, .inl (fun _ => Int32.ofInt 0)))]) [0, 1, 2, 3, 4] rfl
  have hD9 := hD.sub (ws' := [(h0, .inr (2, [.ref a1, .ref q5, .ref q17, .ref q24, .ref q32])), (q5, .inr (10, [.long (Int64.ofInt 0), .long (Int64.ofInt 0), .int (Int32.ofInt 0), .int (Int32.ofInt 0)])), (q17, .inl (cA 2, 4, .inr (.inl (fun _ => Int64.ofInt 0)))), (q24, .inl (cA 0, 4, .inl (fun _ => Int32.ofInt 0))), (q32, .inl (cA 0, 12, .inl (fun _ => Int32.ofInt 0)))]) [0, 1, 2, 3, 4] (by decide) rfl
  exact W.vret hx hb hr (fun t ht2 hW => ⟨⟨(), rfl, trivial, fun i => [q5, q17, q24, q32].getD i 0, by rw [ht2]; exact hP9, hD9⟩, hS.F ht2⟩) hS.2.2 dX2_init_42
set_option maxHeartbeats 8000000 in
set_option maxRecDepth 100000 in
theorem k_X1_init (l : Launch) (D : va_G) (cA : Nat → ClassId) (h0 : Nat) (sz : Nat) : Met l yX1_init (.code yX1_init cX1_init 1 none :: wsL_law) ({ frames := 2, cells := 2, slots := 12, locals := 64 }) (va_Pc [.ref h0] (fun U => U.heap.size = sz ∧ va_P D vwCl [(h0, .inr (1, [.null, .null, .int (Int32.ofInt 0)]))] U.heap ∧ va_K D vwCl (tysOf cA) U ∧ ct_O U ∧ va_D (fun _ => True) [(h0, .inr (1, [.null, .null, .int (Int32.ofInt 0)]))])) (va_Qv (fun _ : Unit => True) (fun _ t => ∃ f : Nat → Nat, va_P D vwCl [(h0, .inr (1, [.ref (f 0), .ref (f 1), .int (Int32.ofInt 0)])), (f 0, .inl (cA 0, 6, .inl (fun _ => Int32.ofInt 0))), (f 1, .inl (cA 0, 6, .inl (fun _ => Int32.ofInt 0)))] t.heap ∧ va_D (va_A [(h0, .inr (1, [.null, .null, .int (Int32.ofInt 0)]))] sz) [(h0, .inr (1, [.ref (f 0), .ref (f 1), .int (Int32.ofInt 0)])), (f 0, .inl (cA 0, 6, .inl (fun _ => Int32.ofInt 0))), (f 1, .inl (cA 0, 6, .inl (fun _ => Int32.ofInt 0)))]) (va_A [(h0, .inr (1, [.null, .null, .int (Int32.ofInt 0)]))] sz)) 2 12 (va_A [(h0, .inr (1, [.null, .null, .int (Int32.ofInt 0)]))] sz) := by
  refine Met.ofW (cc := cX1_init) (maxL := 1) (ret := none) (by decide +kernel) rfl ?_
  intro p e s m args below meth c s₁ B hml hv
  obtain ⟨rfl, hsz, hP, hK, hO, hD0⟩ := hv
  have hx := B.exec
  have hb := B.bytes
  have hr := B.returns
  have hts := atoms_spec (ws := .code yX1_init cX1_init 1 none :: wsL_law) B.pre
  have ht : ∀ w ∈ wsL_law, w.before _ s = true := fun w hw => hts w (List.mem_cons_of_mem _ hw)
  have hown : s.vm.findClass RX1 = some m.cls := findClass_of_methodNamed B.named
  have hlocks := B.notSynchronized
  have hin : meth.name = "<init>" := (name_of_methodNamed B.named B.method).1
  subst hsz
  have hD := hD0.self (sz := s.heap.size)
  generalize hAe : va_A [(h0, .inr (1, [.null, .null, .int (Int32.ofInt 0)]))] s.heap.size = A at hD ⊢
  have hA : ∀ q : Nat, s.heap.size ≤ q → A q := fun q h => by rw [← hAe]; exact Or.inr h
  have hS : va_S A s.heap s.heap [] := va_S.rf
  have hP : va_P D vwCl [(h0, .inr (1, [.null, .null, .int (Int32.ofInt 0)]))] s.heap := hP
  have hl := lv_entry ([.ref h0]) (n := 1) (Nat.le_of_ble_eq_true rfl)
  rw [lg_entry_eq]
  generalize (lg_sl ([.ref h0]) ++ List.replicate (1 - (lg_sl ([.ref h0])).length) Slot.unset).toArray = ls at hl ⊢
  have hl : lv_has ls 1 [(0, .ref h0)] := hl
  refine lv_aload_n hx hb dX1_init_0 rfl (lv_at hl 0 rfl) ?_
  refine W.objInit hx hb hown (ht _ mlX1_3) (ht _ im_objectInit) (ht _ cd_objectInit) rfl (by rw [hml]; exact hl.1) rfl dX1_init_1 (Nat.le_of_ble_eq_true rfl) (Nat.le_of_ble_eq_true rfl) ?_
  refine W.eq (g2 := F0 m 4 ls []) rfl ?_
  refine lv_aload_n hx hb dX1_init_4 rfl (lv_at hl 0 rfl) ?_
  refine lv_bipush (v := Int32.ofInt (6)) hx hb dX1_init_5 (by decide) ?_
  refine cw_newa (atype := .int) (ty := .int) (a0 := (6, .inl (fun _ => Int32.ofInt 0))) (t0 := 0) (c1 := cA 0) (N' := 6) hx hb (ht _ ac__int) rfl hK hP hD hS hA (fun _ => rfl) (by decide) (by decide) (Nat.le_of_ble_eq_true rfl) (Nat.le_of_ble_eq_true rfl) (Nat.le_of_ble_eq_true rfl) dX1_init_7 rfl (fun q7 H hP hD hS => ?_)
  have hP : va_P D vwCl [(h0, .inr (1, [.null, .null, .int (Int32.ofInt 0)])), (q7, .inl (cA 0, 6, .inl (fun _ => Int32.ofInt 0)))] H := hP
  have hD : va_D A [(h0, .inr (1, [.null, .null, .int (Int32.ofInt 0)])), (q7, .inl (cA 0, 6, .inl (fun _ => Int32.ofInt 0)))] := hD
  refine W.widen (k := 1) (n := 6) (by omega) (by omega) ?_
  refine va_putF (D := D) (ci := 1) (v := .ref q7) (ty := (.array .int)) (C := RX1) (T := TX1) (N := 3) (ref := RX1) hx hb ht inlX1 tyX1 tyX1_ok nmX1 hown hK hP hD hS 0 rfl rfl 0 (by decide) (ht _ lkX1_9) (fun _ h9 => h9) rfl hin rfl (by decide +kernel) rfl rfl (Nat.le_of_ble_eq_true rfl) dX1_init_9 (fun H locs hP hD hS => ?_)
  have hP : va_P D vwCl [(h0, .inr (1, [.ref q7, .null, .int (Int32.ofInt 0)])), (q7, .inl (cA 0, 6, .inl (fun _ => Int32.ofInt 0)))] H := hP
  have hD : va_D A [(h0, .inr (1, [.ref q7, .null, .int (Int32.ofInt 0)])), (q7, .inl (cA 0, 6, .inl (fun _ => Int32.ofInt 0)))] := hD
  refine lv_aload_n hx hb dX1_init_12 rfl (lv_at hl 0 rfl) ?_
  refine lv_bipush (v := Int32.ofInt (6)) hx hb dX1_init_13 (by decide) ?_
  refine cw_newa (atype := .int) (ty := .int) (a0 := (6, .inl (fun _ => Int32.ofInt 0))) (t0 := 0) (c1 := cA 0) (N' := 6) hx hb (ht _ ac__int) rfl hK hP hD hS hA (fun _ => rfl) (by decide) (by decide) (Nat.le_of_ble_eq_true rfl) (Nat.le_of_ble_eq_true rfl) (Nat.le_of_ble_eq_true rfl) dX1_init_15 rfl (fun q15 H hP hD hS => ?_)
  have hP : va_P D vwCl [(h0, .inr (1, [.ref q7, .null, .int (Int32.ofInt 0)])), (q7, .inl (cA 0, 6, .inl (fun _ => Int32.ofInt 0))), (q15, .inl (cA 0, 6, .inl (fun _ => Int32.ofInt 0)))] H := hP
  have hD : va_D A [(h0, .inr (1, [.ref q7, .null, .int (Int32.ofInt 0)])), (q7, .inl (cA 0, 6, .inl (fun _ => Int32.ofInt 0))), (q15, .inl (cA 0, 6, .inl (fun _ => Int32.ofInt 0)))] := hD
  refine W.widen (k := 2) (n := 12) (by omega) (by omega) ?_
  refine va_putF (D := D) (ci := 1) (v := .ref q15) (ty := (.array .int)) (C := RX1) (T := TX1) (N := 3) (ref := RX1) hx hb ht inlX1 tyX1 tyX1_ok nmX1 hown hK hP hD hS 0 rfl rfl 1 (by decide) (ht _ lkX1_15) (fun _ h9 => h9) rfl hin rfl (by decide +kernel) rfl rfl (Nat.le_of_ble_eq_true rfl) dX1_init_17 (fun H locs hP hD hS => ?_)
  have hP : va_P D vwCl [(h0, .inr (1, [.ref q7, .ref q15, .int (Int32.ofInt 0)])), (q7, .inl (cA 0, 6, .inl (fun _ => Int32.ofInt 0))), (q15, .inl (cA 0, 6, .inl (fun _ => Int32.ofInt 0)))] H := hP
  have hD : va_D A [(h0, .inr (1, [.ref q7, .ref q15, .int (Int32.ofInt 0)])), (q7, .inl (cA 0, 6, .inl (fun _ => Int32.ofInt 0))), (q15, .inl (cA 0, 6, .inl (fun _ => Int32.ofInt 0)))] := hD
  have hP9 := hP.sub (ws' := [(h0, .inr (1, [.ref q7, .ref q15, .int (Int32.ofInt 0)])), (q7, .inl (cA 0, 6, .inl (fun _ => Int32.ofInt 0))), (q15, .inl (cA 0, 6, .inl (fun _ => Int32.ofInt 0)))]) [0, 1, 2] rfl
  have hD9 := hD.sub (ws' := [(h0, .inr (1, [.ref q7, .ref q15, .int (Int32.ofInt 0)])), (q7, .inl (cA 0, 6, .inl (fun _ => Int32.ofInt 0))), (q15, .inl (cA 0, 6, .inl (fun _ => Int32.ofInt 0)))]) [0, 1, 2] (by decide) rfl
  exact W.vret hx hb hr (fun t ht2 hW => ⟨⟨(), rfl, trivial, fun i => [q7, q15].getD i 0, by rw [ht2]; exact hP9, hD9⟩, hS.F ht2⟩) hS.2.2 dX1_init_20
set_option maxHeartbeats 8000000 in
set_option maxRecDepth 100000 in
theorem k_X0_init (l : Launch) (D : va_G) (cA : Nat → ClassId) (h0 : Nat) (sz : Nat) : Met l yX0_init (.code yX0_init cX0_init 1 none :: wsL_law) ({ frames := 2, cells := 2, slots := 74, locals := 64 }) (va_Pc [.ref h0] (fun U => U.heap.size = sz ∧ va_P D vwCl [(h0, .inr (0, [.null, .null, .int (Int32.ofInt 0), .int (Int32.ofInt 0)]))] U.heap ∧ va_K D vwCl (tysOf cA) U ∧ ct_O U ∧ va_D (fun _ => True) [(h0, .inr (0, [.null, .null, .int (Int32.ofInt 0), .int (Int32.ofInt 0)]))])) (va_Qv (fun _ : Unit => True) (fun _ t => ∃ f : Nat → Nat, va_P D vwCl [(h0, .inr (0, [.ref (f 0), .ref (f 1), .int (Int32.ofInt 0), .int (Int32.ofInt 0)])), (f 0, .inl (cA 0, 50, .inl (fun _ => Int32.ofInt 0))), (f 1, .inl (cA 0, 24, .inl (fun _ => Int32.ofInt 0)))] t.heap ∧ va_D (va_A [(h0, .inr (0, [.null, .null, .int (Int32.ofInt 0), .int (Int32.ofInt 0)]))] sz) [(h0, .inr (0, [.ref (f 0), .ref (f 1), .int (Int32.ofInt 0), .int (Int32.ofInt 0)])), (f 0, .inl (cA 0, 50, .inl (fun _ => Int32.ofInt 0))), (f 1, .inl (cA 0, 24, .inl (fun _ => Int32.ofInt 0)))]) (va_A [(h0, .inr (0, [.null, .null, .int (Int32.ofInt 0), .int (Int32.ofInt 0)]))] sz)) 2 74 (va_A [(h0, .inr (0, [.null, .null, .int (Int32.ofInt 0), .int (Int32.ofInt 0)]))] sz) := by
  refine Met.ofW (cc := cX0_init) (maxL := 1) (ret := none) (by decide +kernel) rfl ?_
  intro p e s m args below meth c s₁ B hml hv
  obtain ⟨rfl, hsz, hP, hK, hO, hD0⟩ := hv
  have hx := B.exec
  have hb := B.bytes
  have hr := B.returns
  have hts := atoms_spec (ws := .code yX0_init cX0_init 1 none :: wsL_law) B.pre
  have ht : ∀ w ∈ wsL_law, w.before _ s = true := fun w hw => hts w (List.mem_cons_of_mem _ hw)
  have hown : s.vm.findClass RX0 = some m.cls := findClass_of_methodNamed B.named
  have hlocks := B.notSynchronized
  have hin : meth.name = "<init>" := (name_of_methodNamed B.named B.method).1
  subst hsz
  have hD := hD0.self (sz := s.heap.size)
  generalize hAe : va_A [(h0, .inr (0, [.null, .null, .int (Int32.ofInt 0), .int (Int32.ofInt 0)]))] s.heap.size = A at hD ⊢
  have hA : ∀ q : Nat, s.heap.size ≤ q → A q := fun q h => by rw [← hAe]; exact Or.inr h
  have hS : va_S A s.heap s.heap [] := va_S.rf
  have hP : va_P D vwCl [(h0, .inr (0, [.null, .null, .int (Int32.ofInt 0), .int (Int32.ofInt 0)]))] s.heap := hP
  have hl := lv_entry ([.ref h0]) (n := 1) (Nat.le_of_ble_eq_true rfl)
  rw [lg_entry_eq]
  generalize (lg_sl ([.ref h0]) ++ List.replicate (1 - (lg_sl ([.ref h0])).length) Slot.unset).toArray = ls at hl ⊢
  have hl : lv_has ls 1 [(0, .ref h0)] := hl
  refine lv_aload_n hx hb dX0_init_0 rfl (lv_at hl 0 rfl) ?_
  refine W.objInit hx hb hown (ht _ mlX0_3) (ht _ im_objectInit) (ht _ cd_objectInit) rfl (by rw [hml]; exact hl.1) rfl dX0_init_1 (Nat.le_of_ble_eq_true rfl) (Nat.le_of_ble_eq_true rfl) ?_
  refine W.eq (g2 := F0 m 4 ls []) rfl ?_
  refine lv_aload_n hx hb dX0_init_4 rfl (lv_at hl 0 rfl) ?_
  refine lv_bipush (v := Int32.ofInt (50)) hx hb dX0_init_5 (by decide) ?_
  refine cw_newa (atype := .int) (ty := .int) (a0 := (50, .inl (fun _ => Int32.ofInt 0))) (t0 := 0) (c1 := cA 0) (N' := 50) hx hb (ht _ ac__int) rfl hK hP hD hS hA (fun _ => rfl) (by decide) (by decide) (Nat.le_of_ble_eq_true rfl) (Nat.le_of_ble_eq_true rfl) (Nat.le_of_ble_eq_true rfl) dX0_init_7 rfl (fun q7 H hP hD hS => ?_)
  have hP : va_P D vwCl [(h0, .inr (0, [.null, .null, .int (Int32.ofInt 0), .int (Int32.ofInt 0)])), (q7, .inl (cA 0, 50, .inl (fun _ => Int32.ofInt 0)))] H := hP
  have hD : va_D A [(h0, .inr (0, [.null, .null, .int (Int32.ofInt 0), .int (Int32.ofInt 0)])), (q7, .inl (cA 0, 50, .inl (fun _ => Int32.ofInt 0)))] := hD
  refine W.widen (k := 1) (n := 50) (by omega) (by omega) ?_
  refine va_putF (D := D) (ci := 0) (v := .ref q7) (ty := (.array .int)) (C := RX0) (T := TX0) (N := 4) (ref := RX0) hx hb ht inlX0 tyX0 tyX0_ok nmX0 hown hK hP hD hS 0 rfl rfl 0 (by decide) (ht _ lkX0_9) (fun _ h9 => h9) rfl hin rfl (by decide +kernel) rfl rfl (Nat.le_of_ble_eq_true rfl) dX0_init_9 (fun H locs hP hD hS => ?_)
  have hP : va_P D vwCl [(h0, .inr (0, [.ref q7, .null, .int (Int32.ofInt 0), .int (Int32.ofInt 0)])), (q7, .inl (cA 0, 50, .inl (fun _ => Int32.ofInt 0)))] H := hP
  have hD : va_D A [(h0, .inr (0, [.ref q7, .null, .int (Int32.ofInt 0), .int (Int32.ofInt 0)])), (q7, .inl (cA 0, 50, .inl (fun _ => Int32.ofInt 0)))] := hD
  refine lv_aload_n hx hb dX0_init_12 rfl (lv_at hl 0 rfl) ?_
  refine lv_bipush (v := Int32.ofInt (24)) hx hb dX0_init_13 (by decide) ?_
  refine cw_newa (atype := .int) (ty := .int) (a0 := (24, .inl (fun _ => Int32.ofInt 0))) (t0 := 0) (c1 := cA 0) (N' := 24) hx hb (ht _ ac__int) rfl hK hP hD hS hA (fun _ => rfl) (by decide) (by decide) (Nat.le_of_ble_eq_true rfl) (Nat.le_of_ble_eq_true rfl) (Nat.le_of_ble_eq_true rfl) dX0_init_15 rfl (fun q15 H hP hD hS => ?_)
  have hP : va_P D vwCl [(h0, .inr (0, [.ref q7, .null, .int (Int32.ofInt 0), .int (Int32.ofInt 0)])), (q7, .inl (cA 0, 50, .inl (fun _ => Int32.ofInt 0))), (q15, .inl (cA 0, 24, .inl (fun _ => Int32.ofInt 0)))] H := hP
  have hD : va_D A [(h0, .inr (0, [.ref q7, .null, .int (Int32.ofInt 0), .int (Int32.ofInt 0)])), (q7, .inl (cA 0, 50, .inl (fun _ => Int32.ofInt 0))), (q15, .inl (cA 0, 24, .inl (fun _ => Int32.ofInt 0)))] := hD
  refine W.widen (k := 2) (n := 74) (by omega) (by omega) ?_
  refine va_putF (D := D) (ci := 0) (v := .ref q15) (ty := (.array .int)) (C := RX0) (T := TX0) (N := 4) (ref := RX0) hx hb ht inlX0 tyX0 tyX0_ok nmX0 hown hK hP hD hS 0 rfl rfl 1 (by decide) (ht _ lkX0_15) (fun _ h9 => h9) rfl hin rfl (by decide +kernel) rfl rfl (Nat.le_of_ble_eq_true rfl) dX0_init_17 (fun H locs hP hD hS => ?_)
  have hP : va_P D vwCl [(h0, .inr (0, [.ref q7, .ref q15, .int (Int32.ofInt 0), .int (Int32.ofInt 0)])), (q7, .inl (cA 0, 50, .inl (fun _ => Int32.ofInt 0))), (q15, .inl (cA 0, 24, .inl (fun _ => Int32.ofInt 0)))] H := hP
  have hD : va_D A [(h0, .inr (0, [.ref q7, .ref q15, .int (Int32.ofInt 0), .int (Int32.ofInt 0)])), (q7, .inl (cA 0, 50, .inl (fun _ => Int32.ofInt 0))), (q15, .inl (cA 0, 24, .inl (fun _ => Int32.ofInt 0)))] := hD
  have hP9 := hP.sub (ws' := [(h0, .inr (0, [.ref q7, .ref q15, .int (Int32.ofInt 0), .int (Int32.ofInt 0)])), (q7, .inl (cA 0, 50, .inl (fun _ => Int32.ofInt 0))), (q15, .inl (cA 0, 24, .inl (fun _ => Int32.ofInt 0)))]) [0, 1, 2] rfl
  have hD9 := hD.sub (ws' := [(h0, .inr (0, [.ref q7, .ref q15, .int (Int32.ofInt 0), .int (Int32.ofInt 0)])), (q7, .inl (cA 0, 50, .inl (fun _ => Int32.ofInt 0))), (q15, .inl (cA 0, 24, .inl (fun _ => Int32.ofInt 0)))]) [0, 1, 2] (by decide) rfl
  exact W.vret hx hb hr (fun t ht2 hW => ⟨⟨(), rfl, trivial, fun i => [q7, q15].getD i 0, by rw [ht2]; exact hP9, hD9⟩, hS.F ht2⟩) hS.2.2 dX0_init_20
set_option maxHeartbeats 8000000 in
set_option maxRecDepth 100000 in
theorem k_X8_init (l : Launch) (D : va_G) (cA : Nat → ClassId) (h0 : Nat) (sz : Nat) : Met l yX8_init (.code yX8_init cX8_init 2 none :: wsL_law) ({ frames := 2, cells := 10, slots := 384, locals := 64 }) (va_Pc [.ref h0] (fun U => U.heap.size = sz ∧ va_P D vwCl [(h0, .inr (8, [.null, .null, .null, .null]))] U.heap ∧ va_K D vwCl (tysOf cA) U ∧ ct_O U ∧ va_D (fun _ => True) [(h0, .inr (8, [.null, .null, .null, .null]))])) (va_Qv (fun _ : Unit => True) (fun _ t => ∃ f : Nat → Nat, va_P D vwCl [(h0, .inr (8, [.ref (f 0), .ref (f 1), .ref (f 2), .ref (f 3)])), (f 0, .inl (cA 0, 6, .inl (upd (upd (upd (upd (upd (upd (fun _ => Int32.ofInt 0) (Int32.ofInt (0)).toNatClampNeg (Int32.ofInt (6))) (Int32.ofInt (1)).toNatClampNeg (Int32.ofInt (6))) (Int32.ofInt (2)).toNatClampNeg (Int32.ofInt (6))) (Int32.ofInt (3)).toNatClampNeg (Int32.ofInt (6))) (Int32.ofInt (4)).toNatClampNeg (Int32.ofInt (6))) (Int32.ofInt (5)).toNatClampNeg (Int32.ofInt (6))))), (f 1, .inl (cA 0, 6, .inl (fun _ => Int32.ofInt 0))), (f 2, .inl (cA 0, 6, .inl (fun _ => Int32.ofInt 0))), (f 3, .inl (cA 4, 6, .inr (.inr (.inr (.inr (fun j => some ([f 4, f 5, f 6, f 7, f 8, f 9].getD j 0))))))), (f 4, .inl (cA 2, 60, .inr (.inl (fun _ => Int64.ofInt 0)))), (f 5, .inl (cA 2, 60, .inr (.inl (fun _ => Int64.ofInt 0)))), (f 6, .inl (cA 2, 60, .inr (.inl (fun _ => Int64.ofInt 0)))), (f 7, .inl (cA 2, 60, .inr (.inl (fun _ => Int64.ofInt 0)))), (f 8, .inl (cA 2, 60, .inr (.inl (fun _ => Int64.ofInt 0)))), (f 9, .inl (cA 2, 60, .inr (.inl (fun _ => Int64.ofInt 0))))] t.heap ∧ va_D (va_A [(h0, .inr (8, [.null, .null, .null, .null]))] sz) [(h0, .inr (8, [.ref (f 0), .ref (f 1), .ref (f 2), .ref (f 3)])), (f 0, .inl (cA 0, 6, .inl (upd (upd (upd (upd (upd (upd (fun _ => Int32.ofInt 0) (Int32.ofInt (0)).toNatClampNeg (Int32.ofInt (6))) (Int32.ofInt (1)).toNatClampNeg (Int32.ofInt (6))) (Int32.ofInt (2)).toNatClampNeg (Int32.ofInt (6))) (Int32.ofInt (3)).toNatClampNeg (Int32.ofInt (6))) (Int32.ofInt (4)).toNatClampNeg (Int32.ofInt (6))) (Int32.ofInt (5)).toNatClampNeg (Int32.ofInt (6))))), (f 1, .inl (cA 0, 6, .inl (fun _ => Int32.ofInt 0))), (f 2, .inl (cA 0, 6, .inl (fun _ => Int32.ofInt 0))), (f 3, .inl (cA 4, 6, .inr (.inr (.inr (.inr (fun j => some ([f 4, f 5, f 6, f 7, f 8, f 9].getD j 0))))))), (f 4, .inl (cA 2, 60, .inr (.inl (fun _ => Int64.ofInt 0)))), (f 5, .inl (cA 2, 60, .inr (.inl (fun _ => Int64.ofInt 0)))), (f 6, .inl (cA 2, 60, .inr (.inl (fun _ => Int64.ofInt 0)))), (f 7, .inl (cA 2, 60, .inr (.inl (fun _ => Int64.ofInt 0)))), (f 8, .inl (cA 2, 60, .inr (.inl (fun _ => Int64.ofInt 0)))), (f 9, .inl (cA 2, 60, .inr (.inl (fun _ => Int64.ofInt 0))))]) (va_A [(h0, .inr (8, [.null, .null, .null, .null]))] sz)) 10 384 (va_A [(h0, .inr (8, [.null, .null, .null, .null]))] sz) := by
  refine Met.ofW (cc := cX8_init) (maxL := 2) (ret := none) (by decide +kernel) rfl ?_
  intro p e s m args below meth c s₁ B hml hv
  obtain ⟨rfl, hsz, hP, hK, hO, hD0⟩ := hv
  have hx := B.exec
  have hb := B.bytes
  have hr := B.returns
  have hts := atoms_spec (ws := .code yX8_init cX8_init 2 none :: wsL_law) B.pre
  have ht : ∀ w ∈ wsL_law, w.before _ s = true := fun w hw => hts w (List.mem_cons_of_mem _ hw)
  have hown : s.vm.findClass RX8 = some m.cls := findClass_of_methodNamed B.named
  have hlocks := B.notSynchronized
  have hin : meth.name = "<init>" := (name_of_methodNamed B.named B.method).1
  subst hsz
  have hD := hD0.self (sz := s.heap.size)
  generalize hAe : va_A [(h0, .inr (8, [.null, .null, .null, .null]))] s.heap.size = A at hD ⊢
  have hA : ∀ q : Nat, s.heap.size ≤ q → A q := fun q h => by rw [← hAe]; exact Or.inr h
  have hS : va_S A s.heap s.heap [] := va_S.rf
  have hP : va_P D vwCl [(h0, .inr (8, [.null, .null, .null, .null]))] s.heap := hP
  have hl := lv_entry ([.ref h0]) (n := 2) (Nat.le_of_ble_eq_true rfl)
  rw [lg_entry_eq]
  generalize (lg_sl ([.ref h0]) ++ List.replicate (2 - (lg_sl ([.ref h0])).length) Slot.unset).toArray = ls at hl ⊢
  have hl : lv_has ls 2 [(0, .ref h0)] := hl
  refine lv_aload_n hx hb dX8_init_0 rfl (lv_at hl 0 rfl) ?_
  refine W.objInit hx hb hown (ht _ mlX8_3) (ht _ im_objectInit) (ht _ cd_objectInit) rfl (by rw [hml]; exact hl.1) rfl dX8_init_1 (Nat.le_of_ble_eq_true rfl) (Nat.le_of_ble_eq_true rfl) ?_
  refine W.eq (g2 := F0 m 4 ls []) rfl ?_
  refine lv_aload_n hx hb dX8_init_4 rfl (lv_at hl 0 rfl) ?_
  refine lv_bipush (v := Int32.ofInt (6)) hx hb dX8_init_5 (by decide) ?_
  refine cw_newa (atype := .int) (ty := .int) (a0 := (6, .inl (fun _ => Int32.ofInt 0))) (t0 := 0) (c1 := cA 0) (N' := 6) hx hb (ht _ ac__int) rfl hK hP hD hS hA (fun _ => rfl) (by decide) (by decide) (Nat.le_of_ble_eq_true rfl) (Nat.le_of_ble_eq_true rfl) (Nat.le_of_ble_eq_true rfl) dX8_init_7 rfl (fun q7 H hP hD hS => ?_)
  have hP : va_P D vwCl [(h0, .inr (8, [.null, .null, .null, .null])), (q7, .inl (cA 0, 6, .inl (fun _ => Int32.ofInt 0)))] H := hP
  have hD : va_D A [(h0, .inr (8, [.null, .null, .null, .null])), (q7, .inl (cA 0, 6, .inl (fun _ => Int32.ofInt 0)))] := hD
  refine W.widen (k := 1) (n := 6) (by omega) (by omega) ?_
  refine va_putF (D := D) (ci := 8) (v := .ref q7) (ty := (.array .int)) (C := RX8) (T := TX8) (N := 4) (ref := RX8) hx hb ht inlX8 tyX8 tyX8_ok nmX8 hown hK hP hD hS 0 rfl rfl 0 (by decide) (ht _ lkX8_9) (fun _ h9 => h9) rfl hin rfl (by decide +kernel) rfl rfl (Nat.le_of_ble_eq_true rfl) dX8_init_9 (fun H locs hP hD hS => ?_)
  have hP : va_P D vwCl [(h0, .inr (8, [.ref q7, .null, .null, .null])), (q7, .inl (cA 0, 6, .inl (fun _ => Int32.ofInt 0)))] H := hP
  have hD : va_D A [(h0, .inr (8, [.ref q7, .null, .null, .null])), (q7, .inl (cA 0, 6, .inl (fun _ => Int32.ofInt 0)))] := hD
  refine lv_aload_n hx hb dX8_init_12 rfl (lv_at hl 0 rfl) ?_
  refine lv_bipush (v := Int32.ofInt (6)) hx hb dX8_init_13 (by decide) ?_
  refine cw_newa (atype := .int) (ty := .int) (a0 := (6, .inl (fun _ => Int32.ofInt 0))) (t0 := 0) (c1 := cA 0) (N' := 6) hx hb (ht _ ac__int) rfl hK hP hD hS hA (fun _ => rfl) (by decide) (by decide) (Nat.le_of_ble_eq_true rfl) (Nat.le_of_ble_eq_true rfl) (Nat.le_of_ble_eq_true rfl) dX8_init_15 rfl (fun q15 H hP hD hS => ?_)
  have hP : va_P D vwCl [(h0, .inr (8, [.ref q7, .null, .null, .null])), (q7, .inl (cA 0, 6, .inl (fun _ => Int32.ofInt 0))), (q15, .inl (cA 0, 6, .inl (fun _ => Int32.ofInt 0)))] H := hP
  have hD : va_D A [(h0, .inr (8, [.ref q7, .null, .null, .null])), (q7, .inl (cA 0, 6, .inl (fun _ => Int32.ofInt 0))), (q15, .inl (cA 0, 6, .inl (fun _ => Int32.ofInt 0)))] := hD
  refine W.widen (k := 2) (n := 12) (by omega) (by omega) ?_
  refine va_putF (D := D) (ci := 8) (v := .ref q15) (ty := (.array .int)) (C := RX8) (T := TX8) (N := 4) (ref := RX8) hx hb ht inlX8 tyX8 tyX8_ok nmX8 hown hK hP hD hS 0 rfl rfl 1 (by decide) (ht _ lkX8_15) (fun _ h9 => h9) rfl hin rfl (by decide +kernel) rfl rfl (Nat.le_of_ble_eq_true rfl) dX8_init_17 (fun H locs hP hD hS => ?_)
  have hP : va_P D vwCl [(h0, .inr (8, [.ref q7, .ref q15, .null, .null])), (q7, .inl (cA 0, 6, .inl (fun _ => Int32.ofInt 0))), (q15, .inl (cA 0, 6, .inl (fun _ => Int32.ofInt 0)))] H := hP
  have hD : va_D A [(h0, .inr (8, [.ref q7, .ref q15, .null, .null])), (q7, .inl (cA 0, 6, .inl (fun _ => Int32.ofInt 0))), (q15, .inl (cA 0, 6, .inl (fun _ => Int32.ofInt 0)))] := hD
  refine lv_aload_n hx hb dX8_init_20 rfl (lv_at hl 0 rfl) ?_
  refine lv_bipush (v := Int32.ofInt (6)) hx hb dX8_init_21 (by decide) ?_
  refine cw_newa (atype := .int) (ty := .int) (a0 := (6, .inl (fun _ => Int32.ofInt 0))) (t0 := 0) (c1 := cA 0) (N' := 6) hx hb (ht _ ac__int) rfl hK hP hD hS hA (fun _ => rfl) (by decide) (by decide) (Nat.le_of_ble_eq_true rfl) (Nat.le_of_ble_eq_true rfl) (Nat.le_of_ble_eq_true rfl) dX8_init_23 rfl (fun q23 H hP hD hS => ?_)
  have hP : va_P D vwCl [(h0, .inr (8, [.ref q7, .ref q15, .null, .null])), (q7, .inl (cA 0, 6, .inl (fun _ => Int32.ofInt 0))), (q15, .inl (cA 0, 6, .inl (fun _ => Int32.ofInt 0))), (q23, .inl (cA 0, 6, .inl (fun _ => Int32.ofInt 0)))] H := hP
  have hD : va_D A [(h0, .inr (8, [.ref q7, .ref q15, .null, .null])), (q7, .inl (cA 0, 6, .inl (fun _ => Int32.ofInt 0))), (q15, .inl (cA 0, 6, .inl (fun _ => Int32.ofInt 0))), (q23, .inl (cA 0, 6, .inl (fun _ => Int32.ofInt 0)))] := hD
  refine W.widen (k := 3) (n := 18) (by omega) (by omega) ?_
  refine va_putF (D := D) (ci := 8) (v := .ref q23) (ty := (.array .int)) (C := RX8) (T := TX8) (N := 4) (ref := RX8) hx hb ht inlX8 tyX8 tyX8_ok nmX8 hown hK hP hD hS 0 rfl rfl 2 (by decide) (ht _ lkX8_18) (fun _ h9 => h9) rfl hin rfl (by decide +kernel) rfl rfl (Nat.le_of_ble_eq_true rfl) dX8_init_25 (fun H locs hP hD hS => ?_)
  have hP : va_P D vwCl [(h0, .inr (8, [.ref q7, .ref q15, .ref q23, .null])), (q7, .inl (cA 0, 6, .inl (fun _ => Int32.ofInt 0))), (q15, .inl (cA 0, 6, .inl (fun _ => Int32.ofInt 0))), (q23, .inl (cA 0, 6, .inl (fun _ => Int32.ofInt 0)))] H := hP
  have hD : va_D A [(h0, .inr (8, [.ref q7, .ref q15, .ref q23, .null])), (q7, .inl (cA 0, 6, .inl (fun _ => Int32.ofInt 0))), (q15, .inl (cA 0, 6, .inl (fun _ => Int32.ofInt 0))), (q23, .inl (cA 0, 6, .inl (fun _ => Int32.ofInt 0)))] := hD
  refine lv_aload_n hx hb dX8_init_28 rfl (lv_at hl 0 rfl) ?_
  refine lv_bipush (v := Int32.ofInt (6)) hx hb dX8_init_29 (by decide) ?_
  refine lv_bipush (v := Int32.ofInt (60)) hx hb dX8_init_31 (by decide) ?_
  refine cw_mnew (ty := .long) (a0 := (60, .inr (.inl (fun _ => Int64.ofInt 0)))) (N := 6) (M := 60) (t1 := 2) (c1 := cA 2) (t2 := 4) (c2 := cA 4) hx hb hown (ht _ clX8_21) hO.2.1 (ht _ ac__long) hK hP hD hS hA (fun _ => rfl) (by decide) (by decide) (by decide) (by decide) (Nat.le_of_ble_eq_true rfl) (Nat.le_of_ble_eq_true rfl) (Nat.le_of_ble_eq_true rfl) rfl rfl (Nat.le_of_ble_eq_true rfl) (Nat.le_of_ble_eq_true rfl) dX8_init_33 rfl (hK.2 2 _ rfl).2 rfl (fun q33 H hP hD hS => ?_)
  have hP : va_P D vwCl [(h0, .inr (8, [.ref q7, .ref q15, .ref q23, .null])), (q7, .inl (cA 0, 6, .inl (fun _ => Int32.ofInt 0))), (q15, .inl (cA 0, 6, .inl (fun _ => Int32.ofInt 0))), (q23, .inl (cA 0, 6, .inl (fun _ => Int32.ofInt 0))), (q33, .inl (cA 4, 6, .inr (.inr (.inr (.inr (fun j => some (q33 + 1 + j))))))), (q33 + 1 + 0, .inl (cA 2, 60, .inr (.inl (fun _ => Int64.ofInt 0)))), (q33 + 1 + 1, .inl (cA 2, 60, .inr (.inl (fun _ => Int64.ofInt 0)))), (q33 + 1 + 2, .inl (cA 2, 60, .inr (.inl (fun _ => Int64.ofInt 0)))), (q33 + 1 + 3, .inl (cA 2, 60, .inr (.inl (fun _ => Int64.ofInt 0)))), (q33 + 1 + 4, .inl (cA 2, 60, .inr (.inl (fun _ => Int64.ofInt 0)))), (q33 + 1 + 5, .inl (cA 2, 60, .inr (.inl (fun _ => Int64.ofInt 0))))] H := hP
  have hD : va_D A [(h0, .inr (8, [.ref q7, .ref q15, .ref q23, .null])), (q7, .inl (cA 0, 6, .inl (fun _ => Int32.ofInt 0))), (q15, .inl (cA 0, 6, .inl (fun _ => Int32.ofInt 0))), (q23, .inl (cA 0, 6, .inl (fun _ => Int32.ofInt 0))), (q33, .inl (cA 4, 6, .inr (.inr (.inr (.inr (fun j => some (q33 + 1 + j))))))), (q33 + 1 + 0, .inl (cA 2, 60, .inr (.inl (fun _ => Int64.ofInt 0)))), (q33 + 1 + 1, .inl (cA 2, 60, .inr (.inl (fun _ => Int64.ofInt 0)))), (q33 + 1 + 2, .inl (cA 2, 60, .inr (.inl (fun _ => Int64.ofInt 0)))), (q33 + 1 + 3, .inl (cA 2, 60, .inr (.inl (fun _ => Int64.ofInt 0)))), (q33 + 1 + 4, .inl (cA 2, 60, .inr (.inl (fun _ => Int64.ofInt 0)))), (q33 + 1 + 5, .inl (cA 2, 60, .inr (.inl (fun _ => Int64.ofInt 0))))] := hD
  have hP := ct_refs (g := fun j => some ([q33 + 1 + 0, q33 + 1 + 1, q33 + 1 + 2, q33 + 1 + 3, q33 + 1 + 4, q33 + 1 + 5].getD j 0)) hP 4 rfl (fun j hj => by rcases (show j = 0 ∨ j = 1 ∨ j = 2 ∨ j = 3 ∨ j = 4 ∨ j = 5 by omega) with rfl | rfl | rfl | rfl | rfl | rfl <;> rfl)
  have hD := hD.set (p := 4) (e := .inl (cA 4, 6, .inr (.inr (.inr (.inr (fun j => some ([q33 + 1 + 0, q33 + 1 + 1, q33 + 1 + 2, q33 + 1 + 3, q33 + 1 + 4, q33 + 1 + 5].getD j 0))))))) rfl
  have hP : va_P D vwCl [(h0, .inr (8, [.ref q7, .ref q15, .ref q23, .null])), (q7, .inl (cA 0, 6, .inl (fun _ => Int32.ofInt 0))), (q15, .inl (cA 0, 6, .inl (fun _ => Int32.ofInt 0))), (q23, .inl (cA 0, 6, .inl (fun _ => Int32.ofInt 0))), (q33, .inl (cA 4, 6, .inr (.inr (.inr (.inr (fun j => some ([q33 + 1 + 0, q33 + 1 + 1, q33 + 1 + 2, q33 + 1 + 3, q33 + 1 + 4, q33 + 1 + 5].getD j 0))))))), (q33 + 1 + 0, .inl (cA 2, 60, .inr (.inl (fun _ => Int64.ofInt 0)))), (q33 + 1 + 1, .inl (cA 2, 60, .inr (.inl (fun _ => Int64.ofInt 0)))), (q33 + 1 + 2, .inl (cA 2, 60, .inr (.inl (fun _ => Int64.ofInt 0)))), (q33 + 1 + 3, .inl (cA 2, 60, .inr (.inl (fun _ => Int64.ofInt 0)))), (q33 + 1 + 4, .inl (cA 2, 60, .inr (.inl (fun _ => Int64.ofInt 0)))), (q33 + 1 + 5, .inl (cA 2, 60, .inr (.inl (fun _ => Int64.ofInt 0))))] H := hP
  have hD : va_D A [(h0, .inr (8, [.ref q7, .ref q15, .ref q23, .null])), (q7, .inl (cA 0, 6, .inl (fun _ => Int32.ofInt 0))), (q15, .inl (cA 0, 6, .inl (fun _ => Int32.ofInt 0))), (q23, .inl (cA 0, 6, .inl (fun _ => Int32.ofInt 0))), (q33, .inl (cA 4, 6, .inr (.inr (.inr (.inr (fun j => some ([q33 + 1 + 0, q33 + 1 + 1, q33 + 1 + 2, q33 + 1 + 3, q33 + 1 + 4, q33 + 1 + 5].getD j 0))))))), (q33 + 1 + 0, .inl (cA 2, 60, .inr (.inl (fun _ => Int64.ofInt 0)))), (q33 + 1 + 1, .inl (cA 2, 60, .inr (.inl (fun _ => Int64.ofInt 0)))), (q33 + 1 + 2, .inl (cA 2, 60, .inr (.inl (fun _ => Int64.ofInt 0)))), (q33 + 1 + 3, .inl (cA 2, 60, .inr (.inl (fun _ => Int64.ofInt 0)))), (q33 + 1 + 4, .inl (cA 2, 60, .inr (.inl (fun _ => Int64.ofInt 0)))), (q33 + 1 + 5, .inl (cA 2, 60, .inr (.inl (fun _ => Int64.ofInt 0))))] := hD
  refine W.widen (k := 10) (n := 384) (by omega) (by omega) ?_
  refine va_putF (D := D) (ci := 8) (v := .ref q33) (ty := (.array (.array .long))) (C := RX8) (T := TX8) (N := 4) (ref := RX8) hx hb ht inlX8 tyX8 tyX8_ok nmX8 hown hK hP hD hS 0 rfl rfl 3 (by decide) (ht _ lkX8_23) (fun _ h9 => h9) rfl hin rfl (by decide +kernel) rfl rfl (Nat.le_of_ble_eq_true rfl) dX8_init_37 (fun H locs hP hD hS => ?_)
  have hP : va_P D vwCl [(h0, .inr (8, [.ref q7, .ref q15, .ref q23, .ref q33])), (q7, .inl (cA 0, 6, .inl (fun _ => Int32.ofInt 0))), (q15, .inl (cA 0, 6, .inl (fun _ => Int32.ofInt 0))), (q23, .inl (cA 0, 6, .inl (fun _ => Int32.ofInt 0))), (q33, .inl (cA 4, 6, .inr (.inr (.inr (.inr (fun j => some ([q33 + 1 + 0, q33 + 1 + 1, q33 + 1 + 2, q33 + 1 + 3, q33 + 1 + 4, q33 + 1 + 5].getD j 0))))))), (q33 + 1 + 0, .inl (cA 2, 60, .inr (.inl (fun _ => Int64.ofInt 0)))), (q33 + 1 + 1, .inl (cA 2, 60, .inr (.inl (fun _ => Int64.ofInt 0)))), (q33 + 1 + 2, .inl (cA 2, 60, .inr (.inl (fun _ => Int64.ofInt 0)))), (q33 + 1 + 3, .inl (cA 2, 60, .inr (.inl (fun _ => Int64.ofInt 0)))), (q33 + 1 + 4, .inl (cA 2, 60, .inr (.inl (fun _ => Int64.ofInt 0)))), (q33 + 1 + 5, .inl (cA 2, 60, .inr (.inl (fun _ => Int64.ofInt 0))))] H := hP
  have hD : va_D A [(h0, .inr (8, [.ref q7, .ref q15, .ref q23, .ref q33])), (q7, .inl (cA 0, 6, .inl (fun _ => Int32.ofInt 0))), (q15, .inl (cA 0, 6, .inl (fun _ => Int32.ofInt 0))), (q23, .inl (cA 0, 6, .inl (fun _ => Int32.ofInt 0))), (q33, .inl (cA 4, 6, .inr (.inr (.inr (.inr (fun j => some ([q33 + 1 + 0, q33 + 1 + 1, q33 + 1 + 2, q33 + 1 + 3, q33 + 1 + 4, q33 + 1 + 5].getD j 0))))))), (q33 + 1 + 0, .inl (cA 2, 60, .inr (.inl (fun _ => Int64.ofInt 0)))), (q33 + 1 + 1, .inl (cA 2, 60, .inr (.inl (fun _ => Int64.ofInt 0)))), (q33 + 1 + 2, .inl (cA 2, 60, .inr (.inl (fun _ => Int64.ofInt 0)))), (q33 + 1 + 3, .inl (cA 2, 60, .inr (.inl (fun _ => Int64.ofInt 0)))), (q33 + 1 + 4, .inl (cA 2, 60, .inr (.inl (fun _ => Int64.ofInt 0)))), (q33 + 1 + 5, .inl (cA 2, 60, .inr (.inl (fun _ => Int64.ofInt 0))))] := hD
  refine lv_iconst (v := Int32.ofInt (0)) hx hb dX8_init_40 rfl ?_
  refine lv_istore_n (lv' := [(1, .int (Int32.ofInt (0))), (0, .ref h0)]) hx hb dX8_init_41 rfl hl (by decide) rfl (fun ls hl => ?_)
  refine lv_iload_n hx hb dX8_init_42 rfl (lv_at hl 0 rfl) ?_
  refine lv_bipush (v := Int32.ofInt (6)) hx hb dX8_init_43 (by decide) ?_
  refine lv_icmp_ge (tgt := 62) hx hb dX8_init_45 (by decide) (fun c_45 => ?_) (fun c_45 => ?_)
  · exact absurd c_45 (by decide)
  refine lv_aload_n hx hb dX8_init_48 rfl (lv_at hl 1 rfl) ?_
  refine va_get (D := D) (ci := 8) (v := .ref q7) (C := RX8) (T := TX8) (N := 4) (ref := RX8) hx hb ht inlX8 hown hK hP 0 rfl rfl 0 (by decide) (ht _ lkX8_9) (fun _ h9 => h9) rfl dX8_init_49 ?_
  refine lv_iload_n hx hb dX8_init_52 rfl (lv_at hl 0 rfl) ?_
  refine lv_bipush (v := Int32.ofInt (6)) hx hb dX8_init_53 (by decide) ?_
  refine va_iast (f := (fun _ => Int32.ofInt 0)) (n := 6) (cA := cA 0) (i := Int32.ofInt (0)) (x := Int32.ofInt (6)) hx hb hK hP hD hS 1 0 rfl rfl (by unfold vp_in; decide) dX8_init_55 (fun H locs hP hD hS => ?_)
  have hP : va_P D vwCl [(h0, .inr (8, [.ref q7, .ref q15, .ref q23, .ref q33])), (q7, .inl (cA 0, 6, .inl (upd (fun _ => Int32.ofInt 0) (Int32.ofInt (0)).toNatClampNeg (Int32.ofInt (6))))), (q15, .inl (cA 0, 6, .inl (fun _ => Int32.ofInt 0))), (q23, .inl (cA 0, 6, .inl (fun _ => Int32.ofInt 0))), (q33, .inl (cA 4, 6, .inr (.inr (.inr (.inr (fun j => some ([q33 + 1 + 0, q33 + 1 + 1, q33 + 1 + 2, q33 + 1 + 3, q33 + 1 + 4, q33 + 1 + 5].getD j 0))))))), (q33 + 1 + 0, .inl (cA 2, 60, .inr (.inl (fun _ => Int64.ofInt 0)))), (q33 + 1 + 1, .inl (cA 2, 60, .inr (.inl (fun _ => Int64.ofInt 0)))), (q33 + 1 + 2, .inl (cA 2, 60, .inr (.inl (fun _ => Int64.ofInt 0)))), (q33 + 1 + 3, .inl (cA 2, 60, .inr (.inl (fun _ => Int64.ofInt 0)))), (q33 + 1 + 4, .inl (cA 2, 60, .inr (.inl (fun _ => Int64.ofInt 0)))), (q33 + 1 + 5, .inl (cA 2, 60, .inr (.inl (fun _ => Int64.ofInt 0))))] H := hP
  have hD : va_D A [(h0, .inr (8, [.ref q7, .ref q15, .ref q23, .ref q33])), (q7, .inl (cA 0, 6, .inl (upd (fun _ => Int32.ofInt 0) (Int32.ofInt (0)).toNatClampNeg (Int32.ofInt (6))))), (q15, .inl (cA 0, 6, .inl (fun _ => Int32.ofInt 0))), (q23, .inl (cA 0, 6, .inl (fun _ => Int32.ofInt 0))), (q33, .inl (cA 4, 6, .inr (.inr (.inr (.inr (fun j => some ([q33 + 1 + 0, q33 + 1 + 1, q33 + 1 + 2, q33 + 1 + 3, q33 + 1 + 4, q33 + 1 + 5].getD j 0))))))), (q33 + 1 + 0, .inl (cA 2, 60, .inr (.inl (fun _ => Int64.ofInt 0)))), (q33 + 1 + 1, .inl (cA 2, 60, .inr (.inl (fun _ => Int64.ofInt 0)))), (q33 + 1 + 2, .inl (cA 2, 60, .inr (.inl (fun _ => Int64.ofInt 0)))), (q33 + 1 + 3, .inl (cA 2, 60, .inr (.inl (fun _ => Int64.ofInt 0)))), (q33 + 1 + 4, .inl (cA 2, 60, .inr (.inl (fun _ => Int64.ofInt 0)))), (q33 + 1 + 5, .inl (cA 2, 60, .inr (.inl (fun _ => Int64.ofInt 0))))] := hD
  refine lv_iinc (v := Int32.ofInt (1)) (lv' := [(1, .int (Int32.ofInt (1))), (0, .ref h0)]) hx hb dX8_init_56 hl (k := 0) rfl (by decide) (by decide) rfl (fun ls hl => ?_)
  refine lv_goto (tgt := 42) hx hb dX8_init_59 (by decide) ?_
  refine lv_iload_n hx hb dX8_init_42 rfl (lv_at hl 0 rfl) ?_
  refine lv_bipush (v := Int32.ofInt (6)) hx hb dX8_init_43 (by decide) ?_
  refine lv_icmp_ge (tgt := 62) hx hb dX8_init_45 (by decide) (fun c_45 => ?_) (fun c_45 => ?_)
  · exact absurd c_45 (by decide)
  refine lv_aload_n hx hb dX8_init_48 rfl (lv_at hl 1 rfl) ?_
  refine va_get (D := D) (ci := 8) (v := .ref q7) (C := RX8) (T := TX8) (N := 4) (ref := RX8) hx hb ht inlX8 hown hK hP 0 rfl rfl 0 (by decide) (ht _ lkX8_9) (fun _ h9 => h9) rfl dX8_init_49 ?_
  refine lv_iload_n hx hb dX8_init_52 rfl (lv_at hl 0 rfl) ?_
  refine lv_bipush (v := Int32.ofInt (6)) hx hb dX8_init_53 (by decide) ?_
  refine va_iast (f := (upd (fun _ => Int32.ofInt 0) (Int32.ofInt (0)).toNatClampNeg (Int32.ofInt (6)))) (n := 6) (cA := cA 0) (i := Int32.ofInt (1)) (x := Int32.ofInt (6)) hx hb hK hP hD hS 1 0 rfl rfl (by unfold vp_in; decide) dX8_init_55 (fun H locs hP hD hS => ?_)
  have hP : va_P D vwCl [(h0, .inr (8, [.ref q7, .ref q15, .ref q23, .ref q33])), (q7, .inl (cA 0, 6, .inl (upd (upd (fun _ => Int32.ofInt 0) (Int32.ofInt (0)).toNatClampNeg (Int32.ofInt (6))) (Int32.ofInt (1)).toNatClampNeg (Int32.ofInt (6))))), (q15, .inl (cA 0, 6, .inl (fun _ => Int32.ofInt 0))), (q23, .inl (cA 0, 6, .inl (fun _ => Int32.ofInt 0))), (q33, .inl (cA 4, 6, .inr (.inr (.inr (.inr (fun j => some ([q33 + 1 + 0, q33 + 1 + 1, q33 + 1 + 2, q33 + 1 + 3, q33 + 1 + 4, q33 + 1 + 5].getD j 0))))))), (q33 + 1 + 0, .inl (cA 2, 60, .inr (.inl (fun _ => Int64.ofInt 0)))), (q33 + 1 + 1, .inl (cA 2, 60, .inr (.inl (fun _ => Int64.ofInt 0)))), (q33 + 1 + 2, .inl (cA 2, 60, .inr (.inl (fun _ => Int64.ofInt 0)))), (q33 + 1 + 3, .inl (cA 2, 60, .inr (.inl (fun _ => Int64.ofInt 0)))), (q33 + 1 + 4, .inl (cA 2, 60, .inr (.inl (fun _ => Int64.ofInt 0)))), (q33 + 1 + 5, .inl (cA 2, 60, .inr (.inl (fun _ => Int64.ofInt 0))))] H := hP
  have hD : va_D A [(h0, .inr (8, [.ref q7, .ref q15, .ref q23, .ref q33])), (q7, .inl (cA 0, 6, .inl (upd (upd (fun _ => Int32.ofInt 0) (Int32.ofInt (0)).toNatClampNeg (Int32.ofInt (6))) (Int32.ofInt (1)).toNatClampNeg (Int32.ofInt (6))))), (q15, .inl (cA 0, 6, .inl (fun _ => Int32.ofInt 0))), (q23, .inl (cA 0, 6, .inl (fun _ => Int32.ofInt 0))), (q33, .inl (cA 4, 6, .inr (.inr (.inr (.inr (fun j => some ([q33 + 1 + 0, q33 + 1 + 1, q33 + 1 + 2, q33 + 1 + 3, q33 + 1 + 4, q33 + 1 + 5].getD j 0))))))), (q33 + 1 + 0, .inl (cA 2, 60, .inr (.inl (fun _ => Int64.ofInt 0)))), (q33 + 1 + 1, .inl (cA 2, 60, .inr (.inl (fun _ => Int64.ofInt 0)))), (q33 + 1 + 2, .inl (cA 2, 60, .inr (.inl (fun _ => Int64.ofInt 0)))), (q33 + 1 + 3, .inl (cA 2, 60, .inr (.inl (fun _ => Int64.ofInt 0)))), (q33 + 1 + 4, .inl (cA 2, 60, .inr (.inl (fun _ => Int64.ofInt 0)))), (q33 + 1 + 5, .inl (cA 2, 60, .inr (.inl (fun _ => Int64.ofInt 0))))] := hD
  refine lv_iinc (v := Int32.ofInt (2)) (lv' := [(1, .int (Int32.ofInt (2))), (0, .ref h0)]) hx hb dX8_init_56 hl (k := 0) rfl (by decide) (by decide) rfl (fun ls hl => ?_)
  refine lv_goto (tgt := 42) hx hb dX8_init_59 (by decide) ?_
  refine lv_iload_n hx hb dX8_init_42 rfl (lv_at hl 0 rfl) ?_
  refine lv_bipush (v := Int32.ofInt (6)) hx hb dX8_init_43 (by decide) ?_
  refine lv_icmp_ge (tgt := 62) hx hb dX8_init_45 (by decide) (fun c_45 => ?_) (fun c_45 => ?_)
  · exact absurd c_45 (by decide)
  refine lv_aload_n hx hb dX8_init_48 rfl (lv_at hl 1 rfl) ?_
  refine va_get (D := D) (ci := 8) (v := .ref q7) (C := RX8) (T := TX8) (N := 4) (ref := RX8) hx hb ht inlX8 hown hK hP 0 rfl rfl 0 (by decide) (ht _ lkX8_9) (fun _ h9 => h9) rfl dX8_init_49 ?_
  refine lv_iload_n hx hb dX8_init_52 rfl (lv_at hl 0 rfl) ?_
  refine lv_bipush (v := Int32.ofInt (6)) hx hb dX8_init_53 (by decide) ?_
  refine va_iast (f := (upd (upd (fun _ => Int32.ofInt 0) (Int32.ofInt (0)).toNatClampNeg (Int32.ofInt (6))) (Int32.ofInt (1)).toNatClampNeg (Int32.ofInt (6)))) (n := 6) (cA := cA 0) (i := Int32.ofInt (2)) (x := Int32.ofInt (6)) hx hb hK hP hD hS 1 0 rfl rfl (by unfold vp_in; decide) dX8_init_55 (fun H locs hP hD hS => ?_)
  have hP : va_P D vwCl [(h0, .inr (8, [.ref q7, .ref q15, .ref q23, .ref q33])), (q7, .inl (cA 0, 6, .inl (upd (upd (upd (fun _ => Int32.ofInt 0) (Int32.ofInt (0)).toNatClampNeg (Int32.ofInt (6))) (Int32.ofInt (1)).toNatClampNeg (Int32.ofInt (6))) (Int32.ofInt (2)).toNatClampNeg (Int32.ofInt (6))))), (q15, .inl (cA 0, 6, .inl (fun _ => Int32.ofInt 0))), (q23, .inl (cA 0, 6, .inl (fun _ => Int32.ofInt 0))), (q33, .inl (cA 4, 6, .inr (.inr (.inr (.inr (fun j => some ([q33 + 1 + 0, q33 + 1 + 1, q33 + 1 + 2, q33 + 1 + 3, q33 + 1 + 4, q33 + 1 + 5].getD j 0))))))), (q33 + 1 + 0, .inl (cA 2, 60, .inr (.inl (fun _ => Int64.ofInt 0)))), (q33 + 1 + 1, .inl (cA 2, 60, .inr (.inl (fun _ => Int64.ofInt 0)))), (q33 + 1 + 2, .inl (cA 2, 60, .inr (.inl (fun _ => Int64.ofInt 0)))), (q33 + 1 + 3, .inl (cA 2, 60, .inr (.inl (fun _ => Int64.ofInt 0)))), (q33 + 1 + 4, .inl (cA 2, 60, .inr (.inl (fun _ => Int64.ofInt 0)))), (q33 + 1 + 5, .inl (cA 2, 60, .inr (.inl (fun _ => Int64.ofInt 0))))] H := hP
  have hD : va_D A [(h0, .inr (8, [.ref q7, .ref q15, .ref q23, .ref q33])), (q7, .inl (cA 0, 6, .inl (upd (upd (upd (fun _ => Int32.ofInt 0) (Int32.ofInt (0)).toNatClampNeg (Int32.ofInt (6))) (Int32.ofInt (1)).toNatClampNeg (Int32.ofInt (6))) (Int32.ofInt (2)).toNatClampNeg (Int32.ofInt (6))))), (q15, .inl (cA 0, 6, .inl (fun _ => Int32.ofInt 0))), (q23, .inl (cA 0, 6, .inl (fun _ => Int32.ofInt 0))), (q33, .inl (cA 4, 6, .inr (.inr (.inr (.inr (fun j => some ([q33 + 1 + 0, q33 + 1 + 1, q33 + 1 + 2, q33 + 1 + 3, q33 + 1 + 4, q33 + 1 + 5].getD j 0))))))), (q33 + 1 + 0, .inl (cA 2, 60, .inr (.inl (fun _ => Int64.ofInt 0)))), (q33 + 1 + 1, .inl (cA 2, 60, .inr (.inl (fun _ => Int64.ofInt 0)))), (q33 + 1 + 2, .inl (cA 2, 60, .inr (.inl (fun _ => Int64.ofInt 0)))), (q33 + 1 + 3, .inl (cA 2, 60, .inr (.inl (fun _ => Int64.ofInt 0)))), (q33 + 1 + 4, .inl (cA 2, 60, .inr (.inl (fun _ => Int64.ofInt 0)))), (q33 + 1 + 5, .inl (cA 2, 60, .inr (.inl (fun _ => Int64.ofInt 0))))] := hD
  refine lv_iinc (v := Int32.ofInt (3)) (lv' := [(1, .int (Int32.ofInt (3))), (0, .ref h0)]) hx hb dX8_init_56 hl (k := 0) rfl (by decide) (by decide) rfl (fun ls hl => ?_)
  refine lv_goto (tgt := 42) hx hb dX8_init_59 (by decide) ?_
  refine lv_iload_n hx hb dX8_init_42 rfl (lv_at hl 0 rfl) ?_
  refine lv_bipush (v := Int32.ofInt (6)) hx hb dX8_init_43 (by decide) ?_
  refine lv_icmp_ge (tgt := 62) hx hb dX8_init_45 (by decide) (fun c_45 => ?_) (fun c_45 => ?_)
  · exact absurd c_45 (by decide)
  refine lv_aload_n hx hb dX8_init_48 rfl (lv_at hl 1 rfl) ?_
  refine va_get (D := D) (ci := 8) (v := .ref q7) (C := RX8) (T := TX8) (N := 4) (ref := RX8) hx hb ht inlX8 hown hK hP 0 rfl rfl 0 (by decide) (ht _ lkX8_9) (fun _ h9 => h9) rfl dX8_init_49 ?_
  refine lv_iload_n hx hb dX8_init_52 rfl (lv_at hl 0 rfl) ?_
  refine lv_bipush (v := Int32.ofInt (6)) hx hb dX8_init_53 (by decide) ?_
  refine va_iast (f := (upd (upd (upd (fun _ => Int32.ofInt 0) (Int32.ofInt (0)).toNatClampNeg (Int32.ofInt (6))) (Int32.ofInt (1)).toNatClampNeg (Int32.ofInt (6))) (Int32.ofInt (2)).toNatClampNeg (Int32.ofInt (6)))) (n := 6) (cA := cA 0) (i := Int32.ofInt (3)) (x := Int32.ofInt (6)) hx hb hK hP hD hS 1 0 rfl rfl (by unfold vp_in; decide) dX8_init_55 (fun H locs hP hD hS => ?_)
  have hP : va_P D vwCl [(h0, .inr (8, [.ref q7, .ref q15, .ref q23, .ref q33])), (q7, .inl (cA 0, 6, .inl (upd (upd (upd (upd (fun _ => Int32.ofInt 0) (Int32.ofInt (0)).toNatClampNeg (Int32.ofInt (6))) (Int32.ofInt (1)).toNatClampNeg (Int32.ofInt (6))) (Int32.ofInt (2)).toNatClampNeg (Int32.ofInt (6))) (Int32.ofInt (3)).toNatClampNeg (Int32.ofInt (6))))), (q15, .inl (cA 0, 6, .inl (fun _ => Int32.ofInt 0))), (q23, .inl (cA 0, 6, .inl (fun _ => Int32.ofInt 0))), (q33, .inl (cA 4, 6, .inr (.inr (.inr (.inr (fun j => some ([q33 + 1 + 0, q33 + 1 + 1, q33 + 1 + 2, q33 + 1 + 3, q33 + 1 + 4, q33 + 1 + 5].getD j 0))))))), (q33 + 1 + 0, .inl (cA 2, 60, .inr (.inl (fun _ => Int64.ofInt 0)))), (q33 + 1 + 1, .inl (cA 2, 60, .inr (.inl (fun _ => Int64.ofInt 0)))), (q33 + 1 + 2, .inl (cA 2, 60, .inr (.inl (fun _ => Int64.ofInt 0)))), (q33 + 1 + 3, .inl (cA 2, 60, .inr (.inl (fun _ => Int64.ofInt 0)))), (q33 + 1 + 4, .inl (cA 2, 60, .inr (.inl (fun _ => Int64.ofInt 0)))), (q33 + 1 + 5, .inl (cA 2, 60, .inr (.inl (fun _ => Int64.ofInt 0))))] H := hP
  have hD : va_D A [(h0, .inr (8, [.ref q7, .ref q15, .ref q23, .ref q33])), (q7, .inl (cA 0, 6, .inl (upd (upd (upd (upd (fun _ => Int32.ofInt 0) (Int32.ofInt (0)).toNatClampNeg (Int32.ofInt (6))) (Int32.ofInt (1)).toNatClampNeg (Int32.ofInt (6))) (Int32.ofInt (2)).toNatClampNeg (Int32.ofInt (6))) (Int32.ofInt (3)).toNatClampNeg (Int32.ofInt (6))))), (q15, .inl (cA 0, 6, .inl (fun _ => Int32.ofInt 0))), (q23, .inl (cA 0, 6, .inl (fun _ => Int32.ofInt 0))), (q33, .inl (cA 4, 6, .inr (.inr (.inr (.inr (fun j => some ([q33 + 1 + 0, q33 + 1 + 1, q33 + 1 + 2, q33 + 1 + 3, q33 + 1 + 4, q33 + 1 + 5].getD j 0))))))), (q33 + 1 + 0, .inl (cA 2, 60, .inr (.inl (fun _ => Int64.ofInt 0)))), (q33 + 1 + 1, .inl (cA 2, 60, .inr (.inl (fun _ => Int64.ofInt 0)))), (q33 + 1 + 2, .inl (cA 2, 60, .inr (.inl (fun _ => Int64.ofInt 0)))), (q33 + 1 + 3, .inl (cA 2, 60, .inr (.inl (fun _ => Int64.ofInt 0)))), (q33 + 1 + 4, .inl (cA 2, 60, .inr (.inl (fun _ => Int64.ofInt 0)))), (q33 + 1 + 5, .inl (cA 2, 60, .inr (.inl (fun _ => Int64.ofInt 0))))] := hD
  refine lv_iinc (v := Int32.ofInt (4)) (lv' := [(1, .int (Int32.ofInt (4))), (0, .ref h0)]) hx hb dX8_init_56 hl (k := 0) rfl (by decide) (by decide) rfl (fun ls hl => ?_)
  refine lv_goto (tgt := 42) hx hb dX8_init_59 (by decide) ?_
  refine lv_iload_n hx hb dX8_init_42 rfl (lv_at hl 0 rfl) ?_
  refine lv_bipush (v := Int32.ofInt (6)) hx hb dX8_init_43 (by decide) ?_
  refine lv_icmp_ge (tgt := 62) hx hb dX8_init_45 (by decide) (fun c_45 => ?_) (fun c_45 => ?_)
  · exact absurd c_45 (by decide)
  refine lv_aload_n hx hb dX8_init_48 rfl (lv_at hl 1 rfl) ?_
  refine va_get (D := D) (ci := 8) (v := .ref q7) (C := RX8) (T := TX8) (N := 4) (ref := RX8) hx hb ht inlX8 hown hK hP 0 rfl rfl 0 (by decide) (ht _ lkX8_9) (fun _ h9 => h9) rfl dX8_init_49 ?_
  refine lv_iload_n hx hb dX8_init_52 rfl (lv_at hl 0 rfl) ?_
  refine lv_bipush (v := Int32.ofInt (6)) hx hb dX8_init_53 (by decide) ?_
  refine va_iast (f := (upd (upd (upd (upd (fun _ => Int32.ofInt 0) (Int32.ofInt (0)).toNatClampNeg (Int32.ofInt (6))) (Int32.ofInt (1)).toNatClampNeg (Int32.ofInt (6))) (Int32.ofInt (2)).toNatClampNeg (Int32.ofInt (6))) (Int32.ofInt (3)).toNatClampNeg (Int32.ofInt (6)))) (n := 6) (cA := cA 0) (i := Int32.ofInt (4)) (x := Int32.ofInt (6)) hx hb hK hP hD hS 1 0 rfl rfl (by unfold vp_in; decide) dX8_init_55 (fun H locs hP hD hS => ?_)
  have hP : va_P D vwCl [(h0, .inr (8, [.ref q7, .ref q15, .ref q23, .ref q33])), (q7, .inl (cA 0, 6, .inl (upd (upd (upd (upd (upd (fun _ => Int32.ofInt 0) (Int32.ofInt (0)).toNatClampNeg (Int32.ofInt (6))) (Int32.ofInt (1)).toNatClampNeg (Int32.ofInt (6))) (Int32.ofInt (2)).toNatClampNeg (Int32.ofInt (6))) (Int32.ofInt (3)).toNatClampNeg (Int32.ofInt (6))) (Int32.ofInt (4)).toNatClampNeg (Int32.ofInt (6))))), (q15, .inl (cA 0, 6, .inl (fun _ => Int32.ofInt 0))), (q23, .inl (cA 0, 6, .inl (fun _ => Int32.ofInt 0))), (q33, .inl (cA 4, 6, .inr (.inr (.inr (.inr (fun j => some ([q33 + 1 + 0, q33 + 1 + 1, q33 + 1 + 2, q33 + 1 + 3, q33 + 1 + 4, q33 + 1 + 5].getD j 0))))))), (q33 + 1 + 0, .inl (cA 2, 60, .inr (.inl (fun _ => Int64.ofInt 0)))), (q33 + 1 + 1, .inl (cA 2, 60, .inr (.inl (fun _ => Int64.ofInt 0)))), (q33 + 1 + 2, .inl (cA 2, 60, .inr (.inl (fun _ => Int64.ofInt 0)))), (q33 + 1 + 3, .inl (cA 2, 60, .inr (.inl (fun _ => Int64.ofInt 0)))), (q33 + 1 + 4, .inl (cA 2, 60, .inr (.inl (fun _ => Int64.ofInt 0)))), (q33 + 1 + 5, .inl (cA 2, 60, .inr (.inl (fun _ => Int64.ofInt 0))))] H := hP
  have hD : va_D A [(h0, .inr (8, [.ref q7, .ref q15, .ref q23, .ref q33])), (q7, .inl (cA 0, 6, .inl (upd (upd (upd (upd (upd (fun _ => Int32.ofInt 0) (Int32.ofInt (0)).toNatClampNeg (Int32.ofInt (6))) (Int32.ofInt (1)).toNatClampNeg (Int32.ofInt (6))) (Int32.ofInt (2)).toNatClampNeg (Int32.ofInt (6))) (Int32.ofInt (3)).toNatClampNeg (Int32.ofInt (6))) (Int32.ofInt (4)).toNatClampNeg (Int32.ofInt (6))))), (q15, .inl (cA 0, 6, .inl (fun _ => Int32.ofInt 0))), (q23, .inl (cA 0, 6, .inl (fun _ => Int32.ofInt 0))), (q33, .inl (cA 4, 6, .inr (.inr (.inr (.inr (fun j => some ([q33 + 1 + 0, q33 + 1 + 1, q33 + 1 + 2, q33 + 1 + 3, q33 + 1 + 4, q33 + 1 + 5].getD j 0))))))), (q33 + 1 + 0, .inl (cA 2, 60, .inr (.inl (fun _ => Int64.ofInt 0)))), (q33 + 1 + 1, .inl (cA 2, 60, .inr (.inl (fun _ => Int64.ofInt 0)))), (q33 + 1 + 2, .inl (cA 2, 60, .inr (.inl (fun _ => Int64.ofInt 0)))), (q33 + 1 + 3, .inl (cA 2, 60, .inr (.inl (fun _ => Int64.ofInt 0)))), (q33 + 1 + 4, .inl (cA 2, 60, .inr (.inl (fun _ => Int64.ofInt 0)))), (q33 + 1 + 5, .inl (cA 2, 60, .inr (.inl (fun _ => Int64.ofInt 0))))] := hD
  refine lv_iinc (v := Int32.ofInt (5)) (lv' := [(1, .int (Int32.ofInt (5))), (0, .ref h0)]) hx hb dX8_init_56 hl (k := 0) rfl (by decide) (by decide) rfl (fun ls hl => ?_)
  refine lv_goto (tgt := 42) hx hb dX8_init_59 (by decide) ?_
  refine lv_iload_n hx hb dX8_init_42 rfl (lv_at hl 0 rfl) ?_
  refine lv_bipush (v := Int32.ofInt (6)) hx hb dX8_init_43 (by decide) ?_
  refine lv_icmp_ge (tgt := 62) hx hb dX8_init_45 (by decide) (fun c_45 => ?_) (fun c_45 => ?_)
  · exact absurd c_45 (by decide)
  refine lv_aload_n hx hb dX8_init_48 rfl (lv_at hl 1 rfl) ?_
  refine va_get (D := D) (ci := 8) (v := .ref q7) (C := RX8) (T := TX8) (N := 4) (ref := RX8) hx hb ht inlX8 hown hK hP 0 rfl rfl 0 (by decide) (ht _ lkX8_9) (fun _ h9 => h9) rfl dX8_init_49 ?_
  refine lv_iload_n hx hb dX8_init_52 rfl (lv_at hl 0 rfl) ?_
  refine lv_bipush (v := Int32.ofInt (6)) hx hb dX8_init_53 (by decide) ?_
  refine va_iast (f := (upd (upd (upd (upd (upd (fun _ => Int32.ofInt 0) (Int32.ofInt (0)).toNatClampNeg (Int32.ofInt (6))) (Int32.ofInt (1)).toNatClampNeg (Int32.ofInt (6))) (Int32.ofInt (2)).toNatClampNeg (Int32.ofInt (6))) (Int32.ofInt (3)).toNatClampNeg (Int32.ofInt (6))) (Int32.ofInt (4)).toNatClampNeg (Int32.ofInt (6)))) (n := 6) (cA := cA 0) (i := Int32.ofInt (5)) (x := Int32.ofInt (6)) hx hb hK hP hD hS 1 0 rfl rfl (by unfold vp_in; decide) dX8_init_55 (fun H locs hP hD hS => ?_)
  have hP : va_P D vwCl [(h0, .inr (8, [.ref q7, .ref q15, .ref q23, .ref q33])), (q7, .inl (cA 0, 6, .inl (upd (upd (upd (upd (upd (upd (fun _ => Int32.ofInt 0) (Int32.ofInt (0)).toNatClampNeg (Int32.ofInt (6))) (Int32.ofInt (1)).toNatClampNeg (Int32.ofInt (6))) (Int32.ofInt (2)).toNatClampNeg (Int32.ofInt (6))) (Int32.ofInt (3)).toNatClampNeg (Int32.ofInt (6))) (Int32.ofInt (4)).toNatClampNeg (Int32.ofInt (6))) (Int32.ofInt (5)).toNatClampNeg (Int32.ofInt (6))))), (q15, .inl (cA 0, 6, .inl (fun _ => Int32.ofInt 0))), (q23, .inl (cA 0, 6, .inl (fun _ => Int32.ofInt 0))), (q33, .inl (cA 4, 6, .inr (.inr (.inr (.inr (fun j => some ([q33 + 1 + 0, q33 + 1 + 1, q33 + 1 + 2, q33 + 1 + 3, q33 + 1 + 4, q33 + 1 + 5].getD j 0))))))), (q33 + 1 + 0, .inl (cA 2, 60, .inr (.inl (fun _ => Int64.ofInt 0)))), (q33 + 1 + 1, .inl (cA 2, 60, .inr (.inl (fun _ => Int64.ofInt 0)))), (q33 + 1 + 2, .inl (cA 2, 60, .inr (.inl (fun _ => Int64.ofInt 0)))), (q33 + 1 + 3, .inl (cA 2, 60, .inr (.inl (fun _ => Int64.ofInt 0)))), (q33 + 1 + 4, .inl (cA 2, 60, .inr (.inl (fun _ => Int64.ofInt 0)))), (q33 + 1 + 5, .inl (cA 2, 60, .inr (.inl (fun _ => Int64.ofInt 0))))] H := hP
  have hD : va_D A [(h0, .inr (8, [.ref q7, .ref q15, .ref q23, .ref q33])), (q7, .inl (cA 0, 6, .inl (upd (upd (upd (upd (upd (upd (fun _ => Int32.ofInt 0) (Int32.ofInt (0)).toNatClampNeg (Int32.ofInt (6))) (Int32.ofInt (1)).toNatClampNeg (Int32.ofInt (6))) (Int32.ofInt (2)).toNatClampNeg (Int32.ofInt (6))) (Int32.ofInt (3)).toNatClampNeg (Int32.ofInt (6))) (Int32.ofInt (4)).toNatClampNeg (Int32.ofInt (6))) (Int32.ofInt (5)).toNatClampNeg (Int32.ofInt (6))))), (q15, .inl (cA 0, 6, .inl (fun _ => Int32.ofInt 0))), (q23, .inl (cA 0, 6, .inl (fun _ => Int32.ofInt 0))), (q33, .inl (cA 4, 6, .inr (.inr (.inr (.inr (fun j => some ([q33 + 1 + 0, q33 + 1 + 1, q33 + 1 + 2, q33 + 1 + 3, q33 + 1 + 4, q33 + 1 + 5].getD j 0))))))), (q33 + 1 + 0, .inl (cA 2, 60, .inr (.inl (fun _ => Int64.ofInt 0)))), (q33 + 1 + 1, .inl (cA 2, 60, .inr (.inl (fun _ => Int64.ofInt 0)))), (q33 + 1 + 2, .inl (cA 2, 60, .inr (.inl (fun _ => Int64.ofInt 0)))), (q33 + 1 + 3, .inl (cA 2, 60, .inr (.inl (fun _ => Int64.ofInt 0)))), (q33 + 1 + 4, .inl (cA 2, 60, .inr (.inl (fun _ => Int64.ofInt 0)))), (q33 + 1 + 5, .inl (cA 2, 60, .inr (.inl (fun _ => Int64.ofInt 0))))] := hD
  refine lv_iinc (v := Int32.ofInt (6)) (lv' := [(1, .int (Int32.ofInt (6))), (0, .ref h0)]) hx hb dX8_init_56 hl (k := 0) rfl (by decide) (by decide) rfl (fun ls hl => ?_)
  refine lv_goto (tgt := 42) hx hb dX8_init_59 (by decide) ?_
  refine lv_iload_n hx hb dX8_init_42 rfl (lv_at hl 0 rfl) ?_
  refine lv_bipush (v := Int32.ofInt (6)) hx hb dX8_init_43 (by decide) ?_
  refine lv_icmp_ge (tgt := 62) hx hb dX8_init_45 (by decide) (fun c_45 => ?_) (fun c_45 => ?_)
  rotate_left
  · exact absurd (by decide) c_45
  have hP9 := hP.sub (ws' := [(h0, .inr (8, [.ref q7, .ref q15, .ref q23, .ref q33])), (q7, .inl (cA 0, 6, .inl (upd (upd (upd (upd (upd (upd (fun _ => Int32.ofInt 0) (Int32.ofInt (0)).toNatClampNeg (Int32.ofInt (6))) (Int32.ofInt (1)).toNatClampNeg (Int32.ofInt (6))) (Int32.ofInt (2)).toNatClampNeg (Int32.ofInt (6))) (Int32.ofInt (3)).toNatClampNeg (Int32.ofInt (6))) (Int32.ofInt (4)).toNatClampNeg (Int32.ofInt (6))) (Int32.ofInt (5)).toNatClampNeg (Int32.ofInt (6))))), (q15, .inl (cA 0, 6, .inl (fun _ => Int32.ofInt 0))), (q23, .inl (cA 0, 6, .inl (fun _ => Int32.ofInt 0))), (q33, .inl (cA 4, 6, .inr (.inr (.inr (.inr (fun j => some ([q33 + 1 + 0, q33 + 1 + 1, q33 + 1 + 2, q33 + 1 + 3, q33 + 1 + 4, q33 + 1 + 5].getD j 0))))))), (q33 + 1 + 0, .inl (cA 2, 60, .inr (.inl (fun _ => Int64.ofInt 0)))), (q33 + 1 + 1, .inl (cA 2, 60, .inr (.inl (fun _ => Int64.ofInt 0)))), (q33 + 1 + 2, .inl (cA 2, 60, .inr (.inl (fun _ => Int64.ofInt 0)))), (q33 + 1 + 3, .inl (cA 2, 60, .inr (.inl (fun _ => Int64.ofInt 0)))), (q33 + 1 + 4, .inl (cA 2, 60, .inr (.inl (fun _ => Int64.ofInt 0)))), (q33 + 1 + 5, .inl (cA 2, 60, .inr (.inl (fun _ => Int64.ofInt 0))))]) [0, 1, 2, 3, 4, 5, 6, 7, 8, 9, 10] rfl
  have hD9 := hD.sub (ws' := [(h0, .inr (8, [.ref q7, .ref q15, .ref q23, .ref q33])), (q7, .inl (cA 0, 6, .inl (upd (upd (upd (upd (upd (upd (fun _ => Int32.ofInt 0) (Int32.ofInt (0)).toNatClampNeg (Int32.ofInt (6))) (Int32.ofInt (1)).toNatClampNeg (Int32.ofInt (6))) (Int32.ofInt (2)).toNatClampNeg (Int32.ofInt (6))) (Int32.ofInt (3)).toNatClampNeg (Int32.ofInt (6))) (Int32.ofInt (4)).toNatClampNeg (Int32.ofInt (6))) (Int32.ofInt (5)).toNatClampNeg (Int32.ofInt (6))))), (q15, .inl (cA 0, 6, .inl (fun _ => Int32.ofInt 0))), (q23, .inl (cA 0, 6, .inl (fun _ => Int32.ofInt 0))), (q33, .inl (cA 4, 6, .inr (.inr (.inr (.inr (fun j => some ([q33 + 1 + 0, q33 + 1 + 1, q33 + 1 + 2, q33 + 1 + 3, q33 + 1 + 4, q33 + 1 + 5].getD j 0))))))), (q33 + 1 + 0, .inl (cA 2, 60, .inr (.inl (fun _ => Int64.ofInt 0)))), (q33 + 1 + 1, .inl (cA 2, 60, .inr (.inl (fun _ => Int64.ofInt 0)))), (q33 + 1 + 2, .inl (cA 2, 60, .inr (.inl (fun _ => Int64.ofInt 0)))), (q33 + 1 + 3, .inl (cA 2, 60, .inr (.inl (fun _ => Int64.ofInt 0)))), (q33 + 1 + 4, .inl (cA 2, 60, .inr (.inl (fun _ => Int64.ofInt 0)))), (q33 + 1 + 5, .inl (cA 2, 60, .inr (.inl (fun _ => Int64.ofInt 0))))]) [0, 1, 2, 3, 4, 5, 6, 7, 8, 9, 10] (by decide) rfl
  exact W.vret hx hb hr (fun t ht2 hW => ⟨⟨(), rfl, trivial, fun i => [q7, q15, q23, q33, q33 + 1 + 0, q33 + 1 + 1, q33 + 1 + 2, q33 + 1 + 3, q33 + 1 + 4, q33 + 1 + 5].getD i 0, by rw [ht2]; exact hP9, hD9⟩, hS.F ht2⟩) hS.2.2 dX8_init_62
