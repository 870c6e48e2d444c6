/-! constructors -/
theorem ct_refs {D : va_G} {cl : List vw_C} {ws : va_W} {H : Heap} {q N : Nat} {c2 : ClassId} {f g : Nat → Option Nat} (hP : va_P D cl ws H) (i : Nat) (he : ws[i]? = some (q, .inl (c2, N, .inr (.inr (.inr (.inr f)))))) (h : ∀ j : Nat, j < N → f j = g j) : va_P D cl (ws.set i (q, .inl (c2, N, .inr (.inr (.inr (.inr g)))))) H := fun k x hk => by
  by_cases z : k = i
  · rw [z, List.getElem?_set_self (List.getElem?_eq_some_iff.mp he).1] at hk
    rw [← Option.some.inj hk]
    have a : H[q]? = some (vp_cell c2 (N, .inr (.inr (.inr (.inr f))))) := hP i _ he
    show H[q]? = some (vp_cell c2 (N, .inr (.inr (.inr (.inr g)))))
    rw [a]
    refine congrArg some ?_
    unfold vp_cell
    refine arrV_cong (fun j hj => ?_)
    simp only [h j hj]
  · rw [List.getElem?_set_ne (Ne.symm z)] at hk
    exact hP k x hk
def ctNest : List (String × Nat × MethodName) := [(RX11, 9, yX6_init), (RX11, 25, yX4_init), (RX11, 50, yX5_init), (RX11, 66, yX1_init), (RX11, 73, yX0_init), (RX2, 11, yX10_init)]
/-- the arrays of arrays have classes; the private constructors -/
def ct_O (U : State) : Prop := (Cond.arrayOver (.array .byte)).before #[] U = true ∧ (Cond.arrayOver (.array .long)).before #[] U = true ∧ ∀ q ∈ ctNest, va_Nw (.methodLinkNest q.1 q.2.1 q.2.2 "ThreeHundred") U
theorem ct_over {u U : State} (h : u.WarmedH U.vm) (o : ct_O u) : ct_O U := ⟨over_moved h.alike o.1, over_moved h.alike o.2.1, fun q hq => (o.2.2 q hq).warmM h⟩
theorem ct_calling {U : State} (g : JFrame) (mk : MethodId) (a : Array Value) (o : ct_O U) : ct_O (U.calling g mk a) := ⟨over_moved (u := U) (E := U.calling g mk a) (Vm.Alike.refl U.vm) o.1, over_moved (u := U) (E := U.calling g mk a) (Vm.Alike.refl U.vm) o.2.1, fun q hq => va_Nw.same rfl (rfl : U.vm = (U.calling g mk a).vm) (o.2.2 q hq)⟩
theorem ct_blind {av : List Value} {sz : Nat} {D : va_G} {tys : List (ClassId × FieldType)} {ws : va_W} : FrameBlind (va_Pc av (fun U => U.heap.size = sz ∧ va_P D vwCl ws U.heap ∧ va_K D vwCl tys U ∧ ct_O U ∧ va_D (fun _ => True) ws)) := fun a U g mk q => by
  obtain ⟨q0, q1, qP, qK, qO, qD⟩ := q
  exact ⟨q0, q1, qP, va_K.moved (u := U) (U := U.calling g mk a) (Vm.Alike.refl U.vm) qK, ct_calling g mk a qO, qD⟩
theorem gd_ct {y : MethodName} {cc : ByteArray} {nL : Nat} (hm : Cond.code y cc nL none ∈ wsL_law) {y2 : MethodName} {cc2 : ByteArray} {nL2 : Nat} {r2 : Option FieldType} : GoodIn (.code y2 cc2 nL2 r2 :: wsL_law) (.code y cc nL none :: wsL_law) := fun w hw => by
  rcases List.mem_cons.mp hw with e | e
  · rw [e]
    exact ⟨List.mem_cons_of_mem _ hm, (ws_in _ hm).2⟩
  · exact ⟨List.mem_cons_of_mem _ e, (ws_in w e).2⟩
theorem ct_dv_0 : ∀ j, j < 4 → defaultValue (tyX0 j) = vp_V [.null, .null, .int (Int32.ofInt 0), .int (Int32.ofInt 0)] j := by
  intro j hj
  have c : j = 0 ∨ j = 1 ∨ j = 2 ∨ j = 3 := by omega
  rcases c with rfl | rfl | rfl | rfl <;> rfl
theorem ct_dv_1 : ∀ j, j < 3 → defaultValue (tyX1 j) = vp_V [.null, .null, .int (Int32.ofInt 0)] j := by
  intro j hj
  have c : j = 0 ∨ j = 1 ∨ j = 2 := by omega
  rcases c with rfl | rfl | rfl <;> rfl
theorem ct_dv_2 : ∀ j, j < 5 → defaultValue (tyX2 j) = vp_V [.null, .null, .null, .null, .null] j := by
  intro j hj
  have c : j = 0 ∨ j = 1 ∨ j = 2 ∨ j = 3 ∨ j = 4 := by omega
  rcases c with rfl | rfl | rfl | rfl | rfl <;> rfl
theorem ct_dv_3 : ∀ j, j < 8 → defaultValue (tyX3 j) = vp_V [.null, .null, .null, .null, .null, .null, .int (Int32.ofInt 0), .int (Int32.ofInt 0)] j := by
  intro j hj
  have c : j = 0 ∨ j = 1 ∨ j = 2 ∨ j = 3 ∨ j = 4 ∨ j = 5 ∨ j = 6 ∨ j = 7 := by omega
  rcases c with rfl | rfl | rfl | rfl | rfl | rfl | rfl | rfl <;> rfl
theorem ct_dv_4 : ∀ j, j < 2 → defaultValue (tyX4 j) = vp_V [.null, .int (Int32.ofInt 0)] j := by
  intro j hj
  have c : j = 0 ∨ j = 1 := by omega
  rcases c with rfl | rfl <;> rfl
theorem ct_dv_5 : ∀ j, j < 10 → defaultValue (tyX5 j) = vp_V [.null, .null, .null, .null, .int (Int32.ofInt 0), .int (Int32.ofInt 0), .null, .int (Int32.ofInt 0), .int (Int32.ofInt 0), .int (Int32.ofInt 0)] j := by
  intro j hj
  have c : j = 0 ∨ j = 1 ∨ j = 2 ∨ j = 3 ∨ j = 4 ∨ j = 5 ∨ j = 6 ∨ j = 7 ∨ j = 8 ∨ j = 9 := by omega
  rcases c with rfl | rfl | rfl | rfl | rfl | rfl | rfl | rfl | rfl | rfl <;> rfl
theorem ct_dv_6 : ∀ j, j < 5 → defaultValue (tyX6 j) = vp_V [.null, .null, .null, .null, .int (Int32.ofInt 0)] j := by
  intro j hj
  have c : j = 0 ∨ j = 1 ∨ j = 2 ∨ j = 3 ∨ j = 4 := by omega
  rcases c with rfl | rfl | rfl | rfl | rfl <;> rfl
theorem ct_dv_7 : ∀ j, j < 11 → defaultValue (tyX7 j) = vp_V [.null, .null, .null, .null, .null, .null, .null, .null, .null, .null, .int (Int32.ofInt 0)] j := by
  intro j hj
  have c : j = 0 ∨ j = 1 ∨ j = 2 ∨ j = 3 ∨ j = 4 ∨ j = 5 ∨ j = 6 ∨ j = 7 ∨ j = 8 ∨ j = 9 ∨ j = 10 := by omega
  rcases c with rfl | rfl | rfl | rfl | rfl | rfl | rfl | rfl | rfl | rfl | rfl <;> rfl
theorem ct_dv_8 : ∀ j, j < 4 → defaultValue (tyX8 j) = vp_V [.null, .null, .null, .null] j := by
  intro j hj
  have c : j = 0 ∨ j = 1 ∨ j = 2 ∨ j = 3 := by omega
  rcases c with rfl | rfl | rfl | rfl <;> rfl
theorem ct_dv_9 : ∀ j, j < 4 → defaultValue (tyX9 j) = vp_V [.null, .null, .null, .int (Int32.ofInt 0)] j := by
  intro j hj
  have c : j = 0 ∨ j = 1 ∨ j = 2 ∨ j = 3 := by omega
  rcases c with rfl | rfl | rfl | rfl <;> rfl
theorem ct_dv_10 : ∀ j, j < 4 → defaultValue (tyX10 j) = vp_V [.long (Int64.ofInt 0), .long (Int64.ofInt 0), .int (Int32.ofInt 0), .int (Int32.ofInt 0)] j := by
  intro j hj
  have c : j = 0 ∨ j = 1 ∨ j = 2 ∨ j = 3 := by omega
  rcases c with rfl | rfl | rfl | rfl <;> rfl
set_option maxHeartbeats 8000000 in
set_option maxRecDepth 100000 in
theorem k_X6_init (l : Launch) (D : va_G) (cA : Nat → ClassId) (h0 : Nat) (sz : Nat) : Met l yX6_init (.code yX6_init cX6_init 1 none :: wsL_law) ({ frames := 2, cells := 4, slots := 80, locals := 64 }) (va_Pc [.ref h0] (fun U => U.heap.size = sz ∧ va_P D vwCl [(h0, .inr (6, [.null, .null, .null, .null, .int (Int32.ofInt 0)]))] U.heap ∧ va_K D vwCl (tysOf cA) U ∧ ct_O U ∧ va_D (fun _ => True) [(h0, .inr (6, [.null, .null, .null, .null, .int (Int32.ofInt 0)]))])) (va_Qv (fun _ : Unit => True) (fun _ t => ∃ f : Nat → Nat, va_P D vwCl [(h0, .inr (6, [.ref (f 0), .ref (f 1), .ref (f 2), .ref (f 3), .int (Int32.ofInt 0)])), (f 0, .inl (cA 0, 20, .inl (fun _ => Int32.ofInt 0))), (f 1, .inl (cA 0, 20, .inl (fun _ => Int32.ofInt 0))), (f 2, .inl (cA 0, 20, .inl (fun _ => Int32.ofInt 0))), (f 3, .inl (cA 0, 20, .inl (fun _ => Int32.ofInt 0)))] t.heap ∧ va_D (va_A [(h0, .inr (6, [.null, .null, .null, .null, .int (Int32.ofInt 0)]))] sz) [(h0, .inr (6, [.ref (f 0), .ref (f 1), .ref (f 2), .ref (f 3), .int (Int32.ofInt 0)])), (f 0, .inl (cA 0, 20, .inl (fun _ => Int32.ofInt 0))), (f 1, .inl (cA 0, 20, .inl (fun _ => Int32.ofInt 0))), (f 2, .inl (cA 0, 20, .inl (fun _ => Int32.ofInt 0))), (f 3, .inl (cA 0, 20, .inl (fun _ => Int32.ofInt 0)))]) (va_A [(h0, .inr (6, [.null, .null, .null, .null, .int (Int32.ofInt 0)]))] sz)) 4 80 (va_A [(h0, .inr (6, [.null, .null, .null, .null, .int (Int32.ofInt 0)]))] sz) := by
  refine Met.ofW (cc := cX6_init) (maxL := 1) (ret := none) (by decide +kernel) rfl ?_
  intro p e s m args below meth c s₁ B hml hv
  obtain ⟨rfl, hsz, hP, hK, hO, hD0⟩ := hv
  have hx := B.exec
  have hb := B.bytes
  have hr := B.returns
  have hts := atoms_spec (ws := .code yX6_init cX6_init 1 none :: wsL_law) B.pre
  have ht : ∀ w ∈ wsL_law, w.before _ s = true := fun w hw => hts w (List.mem_cons_of_mem _ hw)
  have hown : s.vm.findClass RX6 = some m.cls := findClass_of_methodNamed B.named
  have hlocks := B.notSynchronized
  have hin : meth.name = "<init>" := (name_of_methodNamed B.named B.method).1
  subst hsz
  have hD := hD0.self (sz := s.heap.size)
  generalize hAe : va_A [(h0, .inr (6, [.null, .null, .null, .null, .int (Int32.ofInt 0)]))] s.heap.size = A at hD ⊢
  have hA : ∀ q : Nat, s.heap.size ≤ q → A q := fun q h => by rw [← hAe]; exact Or.inr h
  have hS : va_S A s.heap s.heap [] := va_S.rf
  have hP : va_P D vwCl [(h0, .inr (6, [.null, .null, .null, .null, .int (Int32.ofInt 0)]))] s.heap := hP
  have hl := lv_entry ([.ref h0]) (n := 1) (Nat.le_of_ble_eq_true rfl)
  rw [lg_entry_eq]
  generalize (lg_sl ([.ref h0]) ++ List.replicate (1 - (lg_sl ([.ref h0])).length) Slot.unset).toArray = ls at hl ⊢
  have hl : lv_has ls 1 [(0, .ref h0)] := hl
  refine lv_aload_n hx hb dX6_init_0 rfl (lv_at hl 0 rfl) ?_
  refine W.objInit hx hb hown (ht _ mlX6_3) (ht _ im_objectInit) (ht _ cd_objectInit) rfl (by rw [hml]; exact hl.1) rfl dX6_init_1 (Nat.le_of_ble_eq_true rfl) (Nat.le_of_ble_eq_true rfl) ?_
  refine W.eq (g2 := F0 m 4 ls []) rfl ?_
  refine lv_aload_n hx hb dX6_init_4 rfl (lv_at hl 0 rfl) ?_
  refine lv_bipush (v := Int32.ofInt (20)) hx hb dX6_init_5 (by decide) ?_
  refine cw_newa (atype := .int) (ty := .int) (a0 := (20, .inl (fun _ => Int32.ofInt 0))) (t0 := 0) (c1 := cA 0) (N' := 20) hx hb (ht _ ac__int) rfl hK hP hD hS hA (fun _ => rfl) (by decide) (by decide) (Nat.le_of_ble_eq_true rfl) (Nat.le_of_ble_eq_true rfl) (Nat.le_of_ble_eq_true rfl) dX6_init_7 rfl (fun q7 H hP hD hS => ?_)
  have hP : va_P D vwCl [(h0, .inr (6, [.null, .null, .null, .null, .int (Int32.ofInt 0)])), (q7, .inl (cA 0, 20, .inl (fun _ => Int32.ofInt 0)))] H := hP
  have hD : va_D A [(h0, .inr (6, [.null, .null, .null, .null, .int (Int32.ofInt 0)])), (q7, .inl (cA 0, 20, .inl (fun _ => Int32.ofInt 0)))] := hD
  refine W.widen (k := 1) (n := 20) (by omega) (by omega) ?_
  refine va_putF (D := D) (ci := 6) (v := .ref q7) (ty := (.array .int)) (C := RX6) (T := TX6) (N := 5) (ref := RX6) hx hb ht inlX6 tyX6 tyX6_ok nmX6 hown hK hP hD hS 0 rfl rfl 0 (by decide) (ht _ lkX6_9) (fun _ h9 => h9) rfl hin rfl (by decide +kernel) rfl rfl (Nat.le_of_ble_eq_true rfl) dX6_init_9 (fun H locs hP hD hS => ?_)
  have hP : va_P D vwCl [(h0, .inr (6, [.ref q7, .null, .null, .null, .int (Int32.ofInt 0)])), (q7, .inl (cA 0, 20, .inl (fun _ => Int32.ofInt 0)))] H := hP
  have hD : va_D A [(h0, .inr (6, [.ref q7, .null, .null, .null, .int (Int32.ofInt 0)])), (q7, .inl (cA 0, 20, .inl (fun _ => Int32.ofInt 0)))] := hD
  refine lv_aload_n hx hb dX6_init_12 rfl (lv_at hl 0 rfl) ?_
  refine lv_bipush (v := Int32.ofInt (20)) hx hb dX6_init_13 (by decide) ?_
  refine cw_newa (atype := .int) (ty := .int) (a0 := (20, .inl (fun _ => Int32.ofInt 0))) (t0 := 0) (c1 := cA 0) (N' := 20) hx hb (ht _ ac__int) rfl hK hP hD hS hA (fun _ => rfl) (by decide) (by decide) (Nat.le_of_ble_eq_true rfl) (Nat.le_of_ble_eq_true rfl) (Nat.le_of_ble_eq_true rfl) dX6_init_15 rfl (fun q15 H hP hD hS => ?_)
  have hP : va_P D vwCl [(h0, .inr (6, [.ref q7, .null, .null, .null, .int (Int32.ofInt 0)])), (q7, .inl (cA 0, 20, .inl (fun _ => Int32.ofInt 0))), (q15, .inl (cA 0, 20, .inl (fun _ => Int32.ofInt 0)))] H := hP
  have hD : va_D A [(h0, .inr (6, [.ref q7, .null, .null, .null, .int (Int32.ofInt 0)])), (q7, .inl (cA 0, 20, .inl (fun _ => Int32.ofInt 0))), (q15, .inl (cA 0, 20, .inl (fun _ => Int32.ofInt 0)))] := hD
  refine W.widen (k := 2) (n := 40) (by omega) (by omega) ?_
  refine va_putF (D := D) (ci := 6) (v := .ref q15) (ty := (.array .int)) (C := RX6) (T := TX6) (N := 5) (ref := RX6) hx hb ht inlX6 tyX6 tyX6_ok nmX6 hown hK hP hD hS 0 rfl rfl 1 (by decide) (ht _ lkX6_15) (fun _ h9 => h9) rfl hin rfl (by decide +kernel) rfl rfl (Nat.le_of_ble_eq_true rfl) dX6_init_17 (fun H locs hP hD hS => ?_)
  have hP : va_P D vwCl [(h0, .inr (6, [.ref q7, .ref q15, .null, .null, .int (Int32.ofInt 0)])), (q7, .inl (cA 0, 20, .inl (fun _ => Int32.ofInt 0))), (q15, .inl (cA 0, 20, .inl (fun _ => Int32.ofInt 0)))] H := hP
  have hD : va_D A [(h0, .inr (6, [.ref q7, .ref q15, .null, .null, .int (Int32.ofInt 0)])), (q7, .inl (cA 0, 20, .inl (fun _ => Int32.ofInt 0))), (q15, .inl (cA 0, 20, .inl (fun _ => Int32.ofInt 0)))] := hD
  refine lv_aload_n hx hb dX6_init_20 rfl (lv_at hl 0 rfl) ?_
  refine lv_bipush (v := Int32.ofInt (20)) hx hb dX6_init_21 (by decide) ?_
  refine cw_newa (atype := .int) (ty := .int) (a0 := (20, .inl (fun _ => Int32.ofInt 0))) (t0 := 0) (c1 := cA 0) (N' := 20) hx hb (ht _ ac__int) rfl hK hP hD hS hA (fun _ => rfl) (by decide) (by decide) (Nat.le_of_ble_eq_true rfl) (Nat.le_of_ble_eq_true rfl) (Nat.le_of_ble_eq_true rfl) dX6_init_23 rfl (fun q23 H hP hD hS => ?_)
  have hP : va_P D vwCl [(h0, .inr (6, [.ref q7, .ref q15, .null, .null, .int (Int32.ofInt 0)])), (q7, .inl (cA 0, 20, .inl (fun _ => Int32.ofInt 0))), (q15, .inl (cA 0, 20, .inl (fun _ => Int32.ofInt 0))), (q23, .inl (cA 0, 20, .inl (fun _ => Int32.ofInt 0)))] H := hP
  have hD : va_D A [(h0, .inr (6, [.ref q7, .ref q15, .null, .null, .int (Int32.ofInt 0)])), (q7, .inl (cA 0, 20, .inl (fun _ => Int32.ofInt 0))), (q15, .inl (cA 0, 20, .inl (fun _ => Int32.ofInt 0))), (q23, .inl (cA 0, 20, .inl (fun _ => Int32.ofInt 0)))] := hD
  refine W.widen (k := 3) (n := 60) (by omega) (by omega) ?_
  refine va_putF (D := D) (ci := 6) (v := .ref q23) (ty := (.array .int)) (C := RX6) (T := TX6) (N := 5) (ref := RX6) hx hb ht inlX6 tyX6 tyX6_ok nmX6 hown hK hP hD hS 0 rfl rfl 2 (by decide) (ht _ lkX6_18) (fun _ h9 => h9) rfl hin rfl (by decide +kernel) rfl rfl (Nat.le_of_ble_eq_true rfl) dX6_init_25 (fun H locs hP hD hS => ?_)
  have hP : va_P D vwCl [(h0, .inr (6, [.ref q7, .ref q15, .ref q23, .null, .int (Int32.ofInt 0)])), (q7, .inl (cA 0, 20, .inl (fun _ => Int32.ofInt 0))), (q15, .inl (cA 0, 20, .inl (fun _ => Int32.ofInt 0))), (q23, .inl (cA 0, 20, .inl (fun _ => Int32.ofInt 0)))] H := hP
  have hD : va_D A [(h0, .inr (6, [.ref q7, .ref q15, .ref q23, .null, .int (Int32.ofInt 0)])), (q7, .inl (cA 0, 20, .inl (fun _ => Int32.ofInt 0))), (q15, .inl (cA 0, 20, .inl (fun _ => Int32.ofInt 0))), (q23, .inl (cA 0, 20, .inl (fun _ => Int32.ofInt 0)))] := hD
  refine lv_aload_n hx hb dX6_init_28 rfl (lv_at hl 0 rfl) ?_
  refine lv_bipush (v := Int32.ofInt (20)) hx hb dX6_init_29 (by decide) ?_
  refine cw_newa (atype := .int) (ty := .int) (a0 := (20, .inl (fun _ => Int32.ofInt 0))) (t0 := 0) (c1 := cA 0) (N' := 20) hx hb (ht _ ac__int) rfl hK hP hD hS hA (fun _ => rfl) (by decide) (by decide) (Nat.le_of_ble_eq_true rfl) (Nat.le_of_ble_eq_true rfl) (Nat.le_of_ble_eq_true rfl) dX6_init_31 rfl (fun q31 H hP hD hS => ?_)
  have hP : va_P D vwCl [(h0, .inr (6, [.ref q7, .ref q15, .ref q23, .null, .int (Int32.ofInt 0)])), (q7, .inl (cA 0, 20, .inl (fun _ => Int32.ofInt 0))), (q15, .inl (cA 0, 20, .inl (fun _ => Int32.ofInt 0))), (q23, .inl (cA 0, 20, .inl (fun _ => Int32.ofInt 0))), (q31, .inl (cA 0, 20, .inl (fun _ => Int32.ofInt 0)))] H := hP
  have hD : va_D A [(h0, .inr (6, [.ref q7, .ref q15, .ref q23, .null, .int (Int32.ofInt 0)])), (q7, .inl (cA 0, 20, .inl (fun _ => Int32.ofInt 0))), (q15, .inl (cA 0, 20, .inl (fun _ => Int32.ofInt 0))), (q23, .inl (cA 0, 20, .inl (fun _ => Int32.ofInt 0))), (q31, .inl (cA 0, 20, .inl (fun _ => Int32.ofInt 0)))] := hD
  refine W.widen (k := 4) (n := 80) (by omega) (by omega) ?_
  refine va_putF (D := D) (ci := 6) (v := .ref q31) (ty := (.array .int)) (C := RX6) (T := TX6) (N := 5) (ref := RX6) hx hb ht inlX6 tyX6 tyX6_ok nmX6 hown hK hP hD hS 0 rfl rfl 3 (by decide) (ht _ lkX6_21) (fun _ h9 => h9) rfl hin rfl (by decide +kernel) rfl rfl (Nat.le_of_ble_eq_true rfl) dX6_init_33 (fun H locs hP hD hS => ?_)
  have hP : va_P D vwCl [(h0, .inr (6, [.ref q7, .ref q15, .ref q23, .ref q31, .int (Int32.ofInt 0)])), (q7, .inl (cA 0, 20, .inl (fun _ => Int32.ofInt 0))), (q15, .inl (cA 0, 20, .inl (fun _ => Int32.ofInt 0))), (q23, .inl (cA 0, 20, .inl (fun _ => Int32.ofInt 0))), (q31, .inl (cA 0, 20, .inl (fun _ => Int32.ofInt 0)))] H := hP
  have hD : va_D A [(h0, .inr (6, [.ref q7, .ref q15, .ref q23, .ref q31, .int (Int32.ofInt 0)])), (q7, .inl (cA 0, 20, .inl (fun _ => Int32.ofInt 0))), (q15, .inl (cA 0, 20, .inl (fun _ => Int32.ofInt 0))), (q23, .inl (cA 0, 20, .inl (fun _ => Int32.ofInt 0))), (q31, .inl (cA 0, 20, .inl (fun _ => Int32.ofInt 0)))] := hD
  have hP9 := hP.sub (ws' := [(h0, .inr (6, [.ref q7, .ref q15, .ref q23, .ref q31, .int (Int32.ofInt 0)])), (q7, .inl (cA 0, 20, .inl (fun _ => Int32.ofInt 0))), (q15, .inl (cA 0, 20, .inl (fun _ => Int32.ofInt 0))), (q23, .inl (cA 0, 20, .inl (fun _ => Int32.ofInt 0))), (q31, .inl (cA 0, 20, .inl (fun _ => Int32.ofInt 0)))]) [0, 1, 2, 3, 4] rfl
  have hD9 := hD.sub (ws' := [(h0, .inr (6, [.ref q7, .ref q15, .ref q23, .ref q31, .int (Int32.ofInt 0)])), (q7, .inl (cA 0, 20, .inl (fun _ => Int32.ofInt 0))), (q15, .inl (cA 0, 20, .inl (fun _ => Int32.ofInt 0))), (q23, .inl (cA 0, 20, .inl (fun _ => Int32.ofInt 0))), (q31, .inl (cA 0, 20, .inl (fun _ => Int32.ofInt 0)))]) [0, 1, 2, 3, 4] (by decide) rfl
  exact W.vret hx hb hr (fun t ht2 hW => ⟨⟨(), rfl, trivial, fun i => [q7, q15, q23, q31].getD i 0, by rw [ht2]; exact hP9, hD9⟩, hS.F ht2⟩) hS.2.2 dX6_init_36
set_option maxHeartbeats 8000000 in
set_option maxRecDepth 100000 in
theorem k_X9_init (l : Launch) (D : va_G) (cA : Nat → ClassId) (h0 : Nat) (sz : Nat) : Met l yX9_init (.code yX9_init cX9_init 1 none :: wsL_law) ({ frames := 2, cells := 3, slots := 18, locals := 64 }) (va_Pc [.ref h0] (fun U => U.heap.size = sz ∧ va_P D vwCl [(h0, .inr (9, [.null, .null, .null, .int (Int32.ofInt 0)]))] U.heap ∧ va_K D vwCl (tysOf cA) U ∧ ct_O U ∧ va_D (fun _ => True) [(h0, .inr (9, [.null, .null, .null, .int (Int32.ofInt 0)]))])) (va_Qv (fun _ : Unit => True) (fun _ t => ∃ f : Nat → Nat, va_P D vwCl [(h0, .inr (9, [.ref (f 0), .ref (f 1), .ref (f 2), .int (Int32.ofInt (1))])), (f 0, .inl (cA 0, 6, .inl (upd (fun _ => Int32.ofInt 0) (Int32.ofInt (0)).toNatClampNeg (Int32.ofInt (20))))), (f 1, .inl (cA 0, 6, .inl (fun _ => Int32.ofInt 0))), (f 2, .inl (cA 0, 6, .inl (fun _ => Int32.ofInt 0)))] t.heap ∧ va_D (va_A [(h0, .inr (9, [.null, .null, .null, .int (Int32.ofInt 0)]))] sz) [(h0, .inr (9, [.ref (f 0), .ref (f 1), .ref (f 2), .int (Int32.ofInt (1))])), (f 0, .inl (cA 0, 6, .inl (upd (fun _ => Int32.ofInt 0) (Int32.ofInt (0)).toNatClampNeg (Int32.ofInt (20))))), (f 1, .inl (cA 0, 6, .inl (fun _ => Int32.ofInt 0))), (f 2, .inl (cA 0, 6, .inl (fun _ => Int32.ofInt 0)))]) (va_A [(h0, .inr (9, [.null, .null, .null, .int (Int32.ofInt 0)]))] sz)) 3 18 (va_A [(h0, .inr (9, [.null, .null, .null, .int (Int32.ofInt 0)]))] sz) := by
  refine Met.ofW (cc := cX9_init) (maxL := 1) (ret := none) (by decide +kernel) rfl ?_
  intro p e s m args below meth c s₁ B hml hv
  obtain ⟨rfl, hsz, hP, hK, hO, hD0⟩ := hv
  have hx := B.exec
  have hb := B.bytes
  have hr := B.returns
  have hts := atoms_spec (ws := .code yX9_init cX9_init 1 none :: wsL_law) B.pre
  have ht : ∀ w ∈ wsL_law, w.before _ s = true := fun w hw => hts w (List.mem_cons_of_mem _ hw)
  have hown : s.vm.findClass RX9 = some m.cls := findClass_of_methodNamed B.named
  have hlocks := B.notSynchronized
  have hin : meth.name = "<init>" := (name_of_methodNamed B.named B.method).1
  subst hsz
  have hD := hD0.self (sz := s.heap.size)
  generalize hAe : va_A [(h0, .inr (9, [.null, .null, .null, .int (Int32.ofInt 0)]))] s.heap.size = A at hD ⊢
  have hA : ∀ q : Nat, s.heap.size ≤ q → A q := fun q h => by rw [← hAe]; exact Or.inr h
  have hS : va_S A s.heap s.heap [] := va_S.rf
  have hP : va_P D vwCl [(h0, .inr (9, [.null, .null, .null, .int (Int32.ofInt 0)]))] s.heap := hP
  have hl := lv_entry ([.ref h0]) (n := 1) (Nat.le_of_ble_eq_true rfl)
  rw [lg_entry_eq]
  generalize (lg_sl ([.ref h0]) ++ List.replicate (1 - (lg_sl ([.ref h0])).length) Slot.unset).toArray = ls at hl ⊢
  have hl : lv_has ls 1 [(0, .ref h0)] := hl
  refine lv_aload_n hx hb dX9_init_0 rfl (lv_at hl 0 rfl) ?_
  refine W.objInit hx hb hown (ht _ mlX9_3) (ht _ im_objectInit) (ht _ cd_objectInit) rfl (by rw [hml]; exact hl.1) rfl dX9_init_1 (Nat.le_of_ble_eq_true rfl) (Nat.le_of_ble_eq_true rfl) ?_
  refine W.eq (g2 := F0 m 4 ls []) rfl ?_
  refine lv_aload_n hx hb dX9_init_4 rfl (lv_at hl 0 rfl) ?_
  refine lv_bipush (v := Int32.ofInt (6)) hx hb dX9_init_5 (by decide) ?_
  refine cw_newa (atype := .int) (ty := .int) (a0 := (6, .inl (fun _ => Int32.ofInt 0))) (t0 := 0) (c1 := cA 0) (N' := 6) hx hb (ht _ ac__int) rfl hK hP hD hS hA (fun _ => rfl) (by decide) (by decide) (Nat.le_of_ble_eq_true rfl) (Nat.le_of_ble_eq_true rfl) (Nat.le_of_ble_eq_true rfl) dX9_init_7 rfl (fun q7 H hP hD hS => ?_)
  have hP : va_P D vwCl [(h0, .inr (9, [.null, .null, .null, .int (Int32.ofInt 0)])), (q7, .inl (cA 0, 6, .inl (fun _ => Int32.ofInt 0)))] H := hP
  have hD : va_D A [(h0, .inr (9, [.null, .null, .null, .int (Int32.ofInt 0)])), (q7, .inl (cA 0, 6, .inl (fun _ => Int32.ofInt 0)))] := hD
  refine W.widen (k := 1) (n := 6) (by omega) (by omega) ?_
  refine va_putF (D := D) (ci := 9) (v := .ref q7) (ty := (.array .int)) (C := RX9) (T := TX9) (N := 4) (ref := RX9) hx hb ht inlX9 tyX9 tyX9_ok nmX9 hown hK hP hD hS 0 rfl rfl 0 (by decide) (ht _ lkX9_9) (fun _ h9 => h9) rfl hin rfl (by decide +kernel) rfl rfl (Nat.le_of_ble_eq_true rfl) dX9_init_9 (fun H locs hP hD hS => ?_)
  have hP : va_P D vwCl [(h0, .inr (9, [.ref q7, .null, .null, .int (Int32.ofInt 0)])), (q7, .inl (cA 0, 6, .inl (fun _ => Int32.ofInt 0)))] H := hP
  have hD : va_D A [(h0, .inr (9, [.ref q7, .null, .null, .int (Int32.ofInt 0)])), (q7, .inl (cA 0, 6, .inl (fun _ => Int32.ofInt 0)))] := hD
  refine lv_aload_n hx hb dX9_init_12 rfl (lv_at hl 0 rfl) ?_
  refine lv_bipush (v := Int32.ofInt (6)) hx hb dX9_init_13 (by decide) ?_
  refine cw_newa (atype := .int) (ty := .int) (a0 := (6, .inl (fun _ => Int32.ofInt 0))) (t0 := 0) (c1 := cA 0) (N' := 6) hx hb (ht _ ac__int) rfl hK hP hD hS hA (fun _ => rfl) (by decide) (by decide) (Nat.le_of_ble_eq_true rfl) (Nat.le_of_ble_eq_true rfl) (Nat.le_of_ble_eq_true rfl) dX9_init_15 rfl (fun q15 H hP hD hS => ?_)
  have hP : va_P D vwCl [(h0, .inr (9, [.ref q7, .null, .null, .int (Int32.ofInt 0)])), (q7, .inl (cA 0, 6, .inl (fun _ => Int32.ofInt 0))), (q15, .inl (cA 0, 6, .inl (fun _ => Int32.ofInt 0)))] H := hP
  have hD : va_D A [(h0, .inr (9, [.ref q7, .null, .null, .int (Int32.ofInt 0)])), (q7, .inl (cA 0, 6, .inl (fun _ => Int32.ofInt 0))), (q15, .inl (cA 0, 6, .inl (fun _ => Int32.ofInt 0)))] := hD
  refine W.widen (k := 2) (n := 12) (by omega) (by omega) ?_
  refine va_putF (D := D) (ci := 9) (v := .ref q15) (ty := (.array .int)) (C := RX9) (T := TX9) (N := 4) (ref := RX9) hx hb ht inlX9 tyX9 tyX9_ok nmX9 hown hK hP hD hS 0 rfl rfl 1 (by decide) (ht _ lkX9_15) (fun _ h9 => h9) rfl hin rfl (by decide +kernel) rfl rfl (Nat.le_of_ble_eq_true rfl) dX9_init_17 (fun H locs hP hD hS => ?_)
  have hP : va_P D vwCl [(h0, .inr (9, [.ref q7, .ref q15, .null, .int (Int32.ofInt 0)])), (q7, .inl (cA 0, 6, .inl (fun _ => Int32.ofInt 0))), (q15, .inl (cA 0, 6, .inl (fun _ => Int32.ofInt 0)))] H := hP
  have hD : va_D A [(h0, .inr (9, [.ref q7, .ref q15, .null, .int (Int32.ofInt 0)])), (q7, .inl (cA 0, 6, .inl (fun _ => Int32.ofInt 0))), (q15, .inl (cA 0, 6, .inl (fun _ => Int32.ofInt 0)))] := hD
  refine lv_aload_n hx hb dX9_init_20 rfl (lv_at hl 0 rfl) ?_
  refine lv_bipush (v := Int32.ofInt (6)) hx hb dX9_init_21 (by decide) ?_
  refine cw_newa (atype := .int) (ty := .int) (a0 := (6, .inl (fun _ => Int32.ofInt 0))) (t0 := 0) (c1 := cA 0) (N' := 6) hx hb (ht _ ac__int) rfl hK hP hD hS hA (fun _ => rfl) (by decide) (by decide) (Nat.le_of_ble_eq_true rfl) (Nat.le_of_ble_eq_true rfl) (Nat.le_of_ble_eq_true rfl) dX9_init_23 rfl (fun q23 H hP hD hS => ?_)
  have hP : va_P D vwCl [(h0, .inr (9, [.ref q7, .ref q15, .null, .int (Int32.ofInt 0)])), (q7, .inl (cA 0, 6, .inl (fun _ => Int32.ofInt 0))), (q15, .inl (cA 0, 6, .inl (fun _ => Int32.ofInt 0))), (q23, .inl (cA 0, 6, .inl (fun _ => Int32.ofInt 0)))] H := hP
  have hD : va_D A [(h0, .inr (9, [.ref q7, .ref q15, .null, .int (Int32.ofInt 0)])), (q7, .inl (cA 0, 6, .inl (fun _ => Int32.ofInt 0))), (q15, .inl (cA 0, 6, .inl (fun _ => Int32.ofInt 0))), (q23, .inl (cA 0, 6, .inl (fun _ => Int32.ofInt 0)))] := hD
  refine W.widen (k := 3) (n := 18) (by omega) (by omega) ?_
  refine va_putF (D := D) (ci := 9) (v := .ref q23) (ty := (.array .int)) (C := RX9) (T := TX9) (N := 4) (ref := RX9) hx hb ht inlX9 tyX9 tyX9_ok nmX9 hown hK hP hD hS 0 rfl rfl 2 (by decide) (ht _ lkX9_18) (fun _ h9 => h9) rfl hin rfl (by decide +kernel) rfl rfl (Nat.le_of_ble_eq_true rfl) dX9_init_25 (fun H locs hP hD hS => ?_)
  have hP : va_P D vwCl [(h0, .inr (9, [.ref q7, .ref q15, .ref q23, .int (Int32.ofInt 0)])), (q7, .inl (cA 0, 6, .inl (fun _ => Int32.ofInt 0))), (q15, .inl (cA 0, 6, .inl (fun _ => Int32.ofInt 0))), (q23, .inl (cA 0, 6, .inl (fun _ => Int32.ofInt 0)))] H := hP
  have hD : va_D A [(h0, .inr (9, [.ref q7, .ref q15, .ref q23, .int (Int32.ofInt 0)])), (q7, .inl (cA 0, 6, .inl (fun _ => Int32.ofInt 0))), (q15, .inl (cA 0, 6, .inl (fun _ => Int32.ofInt 0))), (q23, .inl (cA 0, 6, .inl (fun _ => Int32.ofInt 0)))] := hD
  refine lv_aload_n hx hb dX9_init_28 rfl (lv_at hl 0 rfl) ?_
  refine va_get (D := D) (ci := 9) (v := .ref q7) (C := RX9) (T := TX9) (N := 4) (ref := RX9) hx hb ht inlX9 hown hK hP 0 rfl rfl 0 (by decide) (ht _ lkX9_9) (fun _ h9 => h9) rfl dX9_init_29 ?_
  refine lv_iconst (v := Int32.ofInt (0)) hx hb dX9_init_32 rfl ?_
  refine lv_bipush (v := Int32.ofInt (20)) hx hb dX9_init_33 (by decide) ?_
  refine va_iast (f := (fun _ => Int32.ofInt 0)) (n := 6) (cA := cA 0) (i := Int32.ofInt (0)) (x := Int32.ofInt (20)) hx hb hK hP hD hS 1 0 rfl rfl (by unfold vp_in; decide) dX9_init_35 (fun H locs hP hD hS => ?_)
  have hP : va_P D vwCl [(h0, .inr (9, [.ref q7, .ref q15, .ref q23, .int (Int32.ofInt 0)])), (q7, .inl (cA 0, 6, .inl (upd (fun _ => Int32.ofInt 0) (Int32.ofInt (0)).toNatClampNeg (Int32.ofInt (20))))), (q15, .inl (cA 0, 6, .inl (fun _ => Int32.ofInt 0))), (q23, .inl (cA 0, 6, .inl (fun _ => Int32.ofInt 0)))] H := hP
  have hD : va_D A [(h0, .inr (9, [.ref q7, .ref q15, .ref q23, .int (Int32.ofInt 0)])), (q7, .inl (cA 0, 6, .inl (upd (fun _ => Int32.ofInt 0) (Int32.ofInt (0)).toNatClampNeg (Int32.ofInt (20))))), (q15, .inl (cA 0, 6, .inl (fun _ => Int32.ofInt 0))), (q23, .inl (cA 0, 6, .inl (fun _ => Int32.ofInt 0)))] := hD
  refine lv_aload_n hx hb dX9_init_36 rfl (lv_at hl 0 rfl) ?_
  refine lv_iconst (v := Int32.ofInt (1)) hx hb dX9_init_37 rfl ?_
  refine va_put (D := D) (ci := 9) (v := .int (Int32.ofInt (1))) (ty := .int) (C := RX9) (T := TX9) (N := 4) (ref := RX9) hx hb ht inlX9 tyX9 tyX9_ok nmX9 hown hK hP hD hS 0 rfl rfl 3 (by decide) (ht _ lkX9_21) (fun _ h9 => h9) rfl (by decide +kernel) rfl rfl (Nat.le_of_ble_eq_true rfl) dX9_init_38 (fun H locs hP hD hS => ?_)
  have hP : va_P D vwCl [(h0, .inr (9, [.ref q7, .ref q15, .ref q23, .int (Int32.ofInt (1))])), (q7, .inl (cA 0, 6, .inl (upd (fun _ => Int32.ofInt 0) (Int32.ofInt (0)).toNatClampNeg (Int32.ofInt (20))))), (q15, .inl (cA 0, 6, .inl (fun _ => Int32.ofInt 0))), (q23, .inl (cA 0, 6, .inl (fun _ => Int32.ofInt 0)))] H := hP
  have hD : va_D A [(h0, .inr (9, [.ref q7, .ref q15, .ref q23, .int (Int32.ofInt (1))])), (q7, .inl (cA 0, 6, .inl (upd (fun _ => Int32.ofInt 0) (Int32.ofInt (0)).toNatClampNeg (Int32.ofInt (20))))), (q15, .inl (cA 0, 6, .inl (fun _ => Int32.ofInt 0))), (q23, .inl (cA 0, 6, .inl (fun _ => Int32.ofInt 0)))] := hD
  have hP9 := hP.sub (ws' := [(h0, .inr (9, [.ref q7, .ref q15, .ref q23, .int (Int32.ofInt (1))])), (q7, .inl (cA 0, 6, .inl (upd (fun _ => Int32.ofInt 0) (Int32.ofInt (0)).toNatClampNeg (Int32.ofInt (20))))), (q15, .inl (cA 0, 6, .inl (fun _ => Int32.ofInt 0))), (q23, .inl (cA 0, 6, .inl (fun _ => Int32.ofInt 0)))]) [0, 1, 2, 3] rfl
  have hD9 := hD.sub (ws' := [(h0, .inr (9, [.ref q7, .ref q15, .ref q23, .int (Int32.ofInt (1))])), (q7, .inl (cA 0, 6, .inl (upd (fun _ => Int32.ofInt 0) (Int32.ofInt (0)).toNatClampNeg (Int32.ofInt (20))))), (q15, .inl (cA 0, 6, .inl (fun _ => Int32.ofInt 0))), (q23, .inl (cA 0, 6, .inl (fun _ => Int32.ofInt 0)))]) [0, 1, 2, 3] (by decide) rfl
  exact W.vret hx hb hr (fun t ht2 hW => ⟨⟨(), rfl, trivial, fun i => [q7, q15, q23].getD i 0, by rw [ht2]; exact hP9, hD9⟩, hS.F ht2⟩) hS.2.2 dX9_init_41
set_option maxHeartbeats 8000000 in
set_option maxRecDepth 100000 in
theorem k_X4_init (l : Launch) (D : va_G) (cA : Nat → ClassId) (h0 : Nat) (sz : Nat) : Met l yX4_init (.code yX4_init cX4_init 1 none :: wsL_law) ({ frames := 2, cells := 1, slots := 5, locals := 64 }) (va_Pc [.ref h0] (fun U => U.heap.size = sz ∧ va_P D vwCl [(h0, .inr (4, [.null, .int (Int32.ofInt 0)]))] U.heap ∧ va_K D vwCl (tysOf cA) U ∧ ct_O U ∧ va_D (fun _ => True) [(h0, .inr (4, [.null, .int (Int32.ofInt 0)]))])) (va_Qv (fun _ : Unit => True) (fun _ t => ∃ f : Nat → Nat, va_P D vwCl [(h0, .inr (4, [.ref (f 0), .int (Int32.ofInt 0)])), (f 0, .inl (cA 0, 5, .inl (fun _ => Int32.ofInt 0)))] t.heap ∧ va_D (va_A [(h0, .inr (4, [.null, .int (Int32.ofInt 0)]))] sz) [(h0, .inr (4, [.ref (f 0), .int (Int32.ofInt 0)])), (f 0, .inl (cA 0, 5, .inl (fun _ => Int32.ofInt 0)))]) (va_A [(h0, .inr (4, [.null, .int (Int32.ofInt 0)]))] sz)) 1 5 (va_A [(h0, .inr (4, [.null, .int (Int32.ofInt 0)]))] sz) := by
  refine Met.ofW (cc := cX4_init) (maxL := 1) (ret := none) (by decide +kernel) rfl ?_
  intro p e s m args below meth c s₁ B hml hv
  obtain ⟨rfl, hsz, hP, hK, hO, hD0⟩ := hv
  have hx := B.exec
  have hb := B.bytes
  have hr := B.returns
  have hts := atoms_spec (ws := .code yX4_init cX4_init 1 none :: wsL_law) B.pre
  have ht : ∀ w ∈ wsL_law, w.before _ s = true := fun w hw => hts w (List.mem_cons_of_mem _ hw)
  have hown : s.vm.findClass RX4 = some m.cls := findClass_of_methodNamed B.named
  have hlocks := B.notSynchronized
  have hin : meth.name = "<init>" := (name_of_methodNamed B.named B.method).1
  subst hsz
  have hD := hD0.self (sz := s.heap.size)
  generalize hAe : va_A [(h0, .inr (4, [.null, .int (Int32.ofInt 0)]))] s.heap.size = A at hD ⊢
  have hA : ∀ q : Nat, s.heap.size ≤ q → A q := fun q h => by rw [← hAe]; exact Or.inr h
  have hS : va_S A s.heap s.heap [] := va_S.rf
  have hP : va_P D vwCl [(h0, .inr (4, [.null, .int (Int32.ofInt 0)]))] s.heap := hP
  have hl := lv_entry ([.ref h0]) (n := 1) (Nat.le_of_ble_eq_true rfl)
  rw [lg_entry_eq]
  generalize (lg_sl ([.ref h0]) ++ List.replicate (1 - (lg_sl ([.ref h0])).length) Slot.unset).toArray = ls at hl ⊢
  have hl : lv_has ls 1 [(0, .ref h0)] := hl
  refine lv_aload_n hx hb dX4_init_0 rfl (lv_at hl 0 rfl) ?_
  refine W.objInit hx hb hown (ht _ mlX4_3) (ht _ im_objectInit) (ht _ cd_objectInit) rfl (by rw [hml]; exact hl.1) rfl dX4_init_1 (Nat.le_of_ble_eq_true rfl) (Nat.le_of_ble_eq_true rfl) ?_
  refine W.eq (g2 := F0 m 4 ls []) rfl ?_
  refine lv_aload_n hx hb dX4_init_4 rfl (lv_at hl 0 rfl) ?_
  refine lv_iconst (v := Int32.ofInt (5)) hx hb dX4_init_5 rfl ?_
  refine cw_newa (atype := .int) (ty := .int) (a0 := (5, .inl (fun _ => Int32.ofInt 0))) (t0 := 0) (c1 := cA 0) (N' := 5) hx hb (ht _ ac__int) rfl hK hP hD hS hA (fun _ => rfl) (by decide) (by decide) (Nat.le_of_ble_eq_true rfl) (Nat.le_of_ble_eq_true rfl) (Nat.le_of_ble_eq_true rfl) dX4_init_6 rfl (fun q6 H hP hD hS => ?_)
  have hP : va_P D vwCl [(h0, .inr (4, [.null, .int (Int32.ofInt 0)])), (q6, .inl (cA 0, 5, .inl (fun _ => Int32.ofInt 0)))] H := hP
  have hD : va_D A [(h0, .inr (4, [.null, .int (Int32.ofInt 0)])), (q6, .inl (cA 0, 5, .inl (fun _ => Int32.ofInt 0)))] := hD
  refine W.widen (k := 1) (n := 5) (by omega) (by omega) ?_
  refine va_putF (D := D) (ci := 4) (v := .ref q6) (ty := (.array .int)) (C := RX4) (T := TX4) (N := 2) (ref := RX4) hx hb ht inlX4 tyX4 tyX4_ok nmX4 hown hK hP hD hS 0 rfl rfl 0 (by decide) (ht _ lkX4_9) (fun _ h9 => h9) rfl hin rfl (by decide +kernel) rfl rfl (Nat.le_of_ble_eq_true rfl) dX4_init_8 (fun H locs hP hD hS => ?_)
  have hP : va_P D vwCl [(h0, .inr (4, [.ref q6, .int (Int32.ofInt 0)])), (q6, .inl (cA 0, 5, .inl (fun _ => Int32.ofInt 0)))] H := hP
  have hD : va_D A [(h0, .inr (4, [.ref q6, .int (Int32.ofInt 0)])), (q6, .inl (cA 0, 5, .inl (fun _ => Int32.ofInt 0)))] := hD
  have hP9 := hP.sub (ws' := [(h0, .inr (4, [.ref q6, .int (Int32.ofInt 0)])), (q6, .inl (cA 0, 5, .inl (fun _ => Int32.ofInt 0)))]) [0, 1] rfl
  have hD9 := hD.sub (ws' := [(h0, .inr (4, [.ref q6, .int (Int32.ofInt 0)])), (q6, .inl (cA 0, 5, .inl (fun _ => Int32.ofInt 0)))]) [0, 1] (by decide) rfl
  exact W.vret hx hb hr (fun t ht2 hW => ⟨⟨(), rfl, trivial, fun i => [q6].getD i 0, by rw [ht2]; exact hP9, hD9⟩, hS.F ht2⟩) hS.2.2 dX4_init_11
set_option maxHeartbeats 8000000 in
set_option maxRecDepth 100000 in
theorem k_X7_init (l : Launch) (D : va_G) (cA : Nat → ClassId) (h0 : Nat) (a1 : Nat) (a2 : Nat) (sz : Nat) : Met l yX7_init (.code yX7_init cX7_init 3 none :: wsL_law) ({ frames := 2, cells := 8, slots := 960, locals := 64 }) (va_Pc [.ref h0, .ref a1, .ref a2] (fun U => U.heap.size = sz ∧ va_P D vwCl [(h0, .inr (7, [.null, .null, .null, .null, .null, .null, .null, .null, .null, .null, .int (Int32.ofInt 0)]))] U.heap ∧ va_K D vwCl (tysOf cA) U ∧ ct_O U ∧ va_D (fun _ => True) [(h0, .inr (7, [.null, .null, .null, .null, .null, .null, .null, .null, .null, .null, .int (Int32.ofInt 0)]))])) (va_Qv (fun _ : Unit => True) (fun _ t => ∃ f : Nat → Nat, va_P D vwCl [(h0, .inr (7, [.ref a1, .ref a2, .ref (f 0), .ref (f 1), .ref (f 2), .ref (f 3), .ref (f 4), .ref (f 5), .ref (f 6), .ref (f 7), .int (Int32.ofInt 0)])), (f 0, .inl (cA 0, 120, .inl (fun _ => Int32.ofInt 0))), (f 1, .inl (cA 0, 120, .inl (fun _ => Int32.ofInt 0))), (f 2, .inl (cA 0, 120, .inl (fun _ => Int32.ofInt 0))), (f 3, .inl (cA 0, 120, .inl (fun _ => Int32.ofInt 0))), (f 4, .inl (cA 0, 120, .inl (fun _ => Int32.ofInt 0))), (f 5, .inl (cA 0, 120, .inl (fun _ => Int32.ofInt 0))), (f 6, .inl (cA 0, 120, .inl (fun _ => Int32.ofInt 0))), (f 7, .inl (cA 0, 120, .inl (fun _ => Int32.ofInt 0)))] t.heap ∧ va_D (va_A [(h0, .inr (7, [.null, .null, .null, .null, .null, .null, .null, .null, .null, .null, .int (Int32.ofInt 0)]))] sz) [(h0, .inr (7, [.ref a1, .ref a2, .ref (f 0), .ref (f 1), .ref (f 2), .ref (f 3), .ref (f 4), .ref (f 5), .ref (f 6), .ref (f 7), .int (Int32.ofInt 0)])), (f 0, .inl (cA 0, 120, .inl (fun _ => Int32.ofInt 0))), (f 1, .inl (cA 0, 120, .inl (fun _ => Int32.ofInt 0))), (f 2, .inl (cA 0, 120, .inl (fun _ => Int32.ofInt 0))), (f 3, .inl (cA 0, 120, .inl (fun _ => Int32.ofInt 0))), (f 4, .inl (cA 0, 120, .inl (fun _ => Int32.ofInt 0))), (f 5, .inl (cA 0, 120, .inl (fun _ => Int32.ofInt 0))), (f 6, .inl (cA 0, 120, .inl (fun _ => Int32.ofInt 0))), (f 7, .inl (cA 0, 120, .inl (fun _ => Int32.ofInt 0)))]) (va_A [(h0, .inr (7, [.null, .null, .null, .null, .null, .null, .null, .null, .null, .null, .int (Int32.ofInt 0)]))] sz)) 8 960 (va_A [(h0, .inr (7, [.null, .null, .null, .null, .null, .null, .null, .null, .null, .null, .int (Int32.ofInt 0)]))] sz) := by
  refine Met.ofW (cc := cX7_init) (maxL := 3) (ret := none) (by decide +kernel) rfl ?_
  intro p e s m args below meth c s₁ B hml hv
  obtain ⟨rfl, hsz, hP, hK, hO, hD0⟩ := hv
  have hx := B.exec
  have hb := B.bytes
  have hr := B.returns
  have hts := atoms_spec (ws := .code yX7_init cX7_init 3 none :: wsL_law) B.pre
  have ht : ∀ w ∈ wsL_law, w.before _ s = true := fun w hw => hts w (List.mem_cons_of_mem _ hw)
  have hown : s.vm.findClass RX7 = some m.cls := findClass_of_methodNamed B.named
  have hlocks := B.notSynchronized
  have hin : meth.name = "<init>" := (name_of_methodNamed B.named B.method).1
  subst hsz
  have hD := hD0.self (sz := s.heap.size)
  generalize hAe : va_A [(h0, .inr (7, [.null, .null, .null, .null, .null, .null, .null, .null, .null, .null, .int (Int32.ofInt 0)]))] s.heap.size = A at hD ⊢
  have hA : ∀ q : Nat, s.heap.size ≤ q → A q := fun q h => by rw [← hAe]; exact Or.inr h
  have hS : va_S A s.heap s.heap [] := va_S.rf
  have hP : va_P D vwCl [(h0, .inr (7, [.null, .null, .null, .null, .null, .null, .null, .null, .null, .null, .int (Int32.ofInt 0)]))] s.heap := hP
  have hl := lv_entry ([.ref h0, .ref a1, .ref a2]) (n := 3) (Nat.le_of_ble_eq_true rfl)
  rw [lg_entry_eq]
  generalize (lg_sl ([.ref h0, .ref a1, .ref a2]) ++ List.replicate (3 - (lg_sl ([.ref h0, .ref a1, .ref a2])).length) Slot.unset).toArray = ls at hl ⊢
  have hl : lv_has ls 3 [(0, .ref h0), (1, .ref a1), (2, .ref a2)] := hl
  refine lv_aload_n hx hb dX7_init_0 rfl (lv_at hl 0 rfl) ?_
  refine W.objInit hx hb hown (ht _ mlX7_3) (ht _ im_objectInit) (ht _ cd_objectInit) rfl (by rw [hml]; exact hl.1) rfl dX7_init_1 (Nat.le_of_ble_eq_true rfl) (Nat.le_of_ble_eq_true rfl) ?_
  refine W.eq (g2 := F0 m 4 ls []) rfl ?_
  refine lv_aload_n hx hb dX7_init_4 rfl (lv_at hl 0 rfl) ?_
  refine lv_bipush (v := Int32.ofInt (120)) hx hb dX7_init_5 (by decide) ?_
  refine cw_newa (atype := .int) (ty := .int) (a0 := (120, .inl (fun _ => Int32.ofInt 0))) (t0 := 0) (c1 := cA 0) (N' := 120) hx hb (ht _ ac__int) rfl hK hP hD hS hA (fun _ => rfl) (by decide) (by decide) (Nat.le_of_ble_eq_true rfl) (Nat.le_of_ble_eq_true rfl) (Nat.le_of_ble_eq_true rfl) dX7_init_7 rfl (fun q7 H hP hD hS => ?_)
  have hP : va_P D vwCl [(h0, .inr (7, [.null, .null, .null, .null, .null, .null, .null, .null, .null, .null, .int (Int32.ofInt 0)])), (q7, .inl (cA 0, 120, .inl (fun _ => Int32.ofInt 0)))] H := hP
  have hD : va_D A [(h0, .inr (7, [.null, .null, .null, .null, .null, .null, .null, .null, .null, .null, .int (Int32.ofInt 0)])), (q7, .inl (cA 0, 120, .inl (fun _ => Int32.ofInt 0)))] := hD
  refine W.widen (k := 1) (n := 120) (by omega) (by omega) ?_
  refine va_putF (D := D) (ci := 7) (v := .ref q7) (ty := (.array .int)) (C := RX7) (T := TX7) (N := 11) (ref := RX7) hx hb ht inlX7 tyX7 tyX7_ok nmX7 hown hK hP hD hS 0 rfl rfl 2 (by decide) (ht _ lkX7_9) (fun _ h9 => h9) rfl hin rfl (by decide +kernel) rfl rfl (Nat.le_of_ble_eq_true rfl) dX7_init_9 (fun H locs hP hD hS => ?_)
  have hP : va_P D vwCl [(h0, .inr (7, [.null, .null, .ref q7, .null, .null, .null, .null, .null, .null, .null, .int (Int32.ofInt 0)])), (q7, .inl (cA 0, 120, .inl (fun _ => Int32.ofInt 0)))] H := hP
  have hD : va_D A [(h0, .inr (7, [.null, .null, .ref q7, .null, .null, .null, .null, .null, .null, .null, .int (Int32.ofInt 0)])), (q7, .inl (cA 0, 120, .inl (fun _ => Int32.ofInt 0)))] := hD
  refine lv_aload_n hx hb dX7_init_12 rfl (lv_at hl 0 rfl) ?_
  refine lv_bipush (v := Int32.ofInt (120)) hx hb dX7_init_13 (by decide) ?_
  refine cw_newa (atype := .int) (ty := .int) (a0 := (120, .inl (fun _ => Int32.ofInt 0))) (t0 := 0) (c1 := cA 0) (N' := 120) hx hb (ht _ ac__int) rfl hK hP hD hS hA (fun _ => rfl) (by decide) (by decide) (Nat.le_of_ble_eq_true rfl) (Nat.le_of_ble_eq_true rfl) (Nat.le_of_ble_eq_true rfl) dX7_init_15 rfl (fun q15 H hP hD hS => ?_)
  have hP : va_P D vwCl [(h0, .inr (7, [.null, .null, .ref q7, .null, .null, .null, .null, .null, .null, .null, .int (Int32.ofInt 0)])), (q7, .inl (cA 0, 120, .inl (fun _ => Int32.ofInt 0))), (q15, .inl (cA 0, 120, .inl (fun _ => Int32.ofInt 0)))] H := hP
  have hD : va_D A [(h0, .inr (7, [.null, .null, .ref q7, .null, .null, .null, .null, .null, .null, .null, .int (Int32.ofInt 0)])), (q7, .inl (cA 0, 120, .inl (fun _ => Int32.ofInt 0))), (q15, .inl (cA 0, 120, .inl (fun _ => Int32.ofInt 0)))] := hD
  refine W.widen (k := 2) (n := 240) (by omega) (by omega) ?_
  refine va_putF (D := D) (ci := 7) (v := .ref q15) (ty := (.array .int)) (C := RX7) (T := TX7) (N := 11) (ref := RX7) hx hb ht inlX7 tyX7 tyX7_ok nmX7 hown hK hP hD hS 0 rfl rfl 3 (by decide) (ht _ lkX7_15) (fun _ h9 => h9) rfl hin rfl (by decide +kernel) rfl rfl (Nat.le_of_ble_eq_true rfl) dX7_init_17 (fun H locs hP hD hS => ?_)
  have hP : va_P D vwCl [(h0, .inr (7, [.null, .null, .ref q7, .ref q15, .null, .null, .null, .null, .null, .null, .int (Int32.ofInt 0)])), (q7, .inl (cA 0, 120, .inl (fun _ => Int32.ofInt 0))), (q15, .inl (cA 0, 120, .inl (fun _ => Int32.ofInt 0)))] H := hP
  have hD : va_D A [(h0, .inr (7, [.null, .null, .ref q7, .ref q15, .null, .null, .null, .null, .null, .null, .int (Int32.ofInt 0)])), (q7, .inl (cA 0, 120, .inl (fun _ => Int32.ofInt 0))), (q15, .inl (cA 0, 120, .inl (fun _ => Int32.ofInt 0)))] := hD
  refine lv_aload_n hx hb dX7_init_20 rfl (lv_at hl 0 rfl) ?_
  refine lv_bipush (v := Int32.ofInt (120)) hx hb dX7_init_21 (by decide) ?_
  refine cw_newa (atype := .int) (ty := .int) (a0 := (120, .inl (fun _ => Int32.ofInt 0))) (t0 := 0) (c1 := cA 0) (N' := 120) hx hb (ht _ ac__int) rfl hK hP hD hS hA (fun _ => rfl) (by decide) (by decide) (Nat.le_of_ble_eq_true rfl) (Nat.le_of_ble_eq_true rfl) (Nat.le_of_ble_eq_true rfl) dX7_init_23 rfl (fun q23 H hP hD hS => ?_)
  have hP : va_P D vwCl [(h0, .inr (7, [.null, .null, .ref q7, .ref q15, .null, .null, .null, .null, .null, .null, .int (Int32.ofInt 0)])), (q7, .inl (cA 0, 120, .inl (fun _ => Int32.ofInt 0))), (q15, .inl (cA 0, 120, .inl (fun _ => Int32.ofInt 0))), (q23, .inl (cA 0, 120, .inl (fun _ => Int32.ofInt 0)))] H := hP
  have hD : va_D A [(h0, .inr (7, [.null, .null, .ref q7, .ref q15, .null, .null, .null, .null, .null, .null, .int (Int32.ofInt 0)])), (q7, .inl (cA 0, 120, .inl (fun _ => Int32.ofInt 0))), (q15, .inl (cA 0, 120, .inl (fun _ => Int32.ofInt 0))), (q23, .inl (cA 0, 120, .inl (fun _ => Int32.ofInt 0)))] := hD
  refine W.widen (k := 3) (n := 360) (by omega) (by omega) ?_
  refine va_putF (D := D) (ci := 7) (v := .ref q23) (ty := (.array .int)) (C := RX7) (T := TX7) (N := 11) (ref := RX7) hx hb ht inlX7 tyX7 tyX7_ok nmX7 hown hK hP hD hS 0 rfl rfl 4 (by decide) (ht _ lkX7_18) (fun _ h9 => h9) rfl hin rfl (by decide +kernel) rfl rfl (Nat.le_of_ble_eq_true rfl) dX7_init_25 (fun H locs hP hD hS => ?_)
  have hP : va_P D vwCl [(h0, .inr (7, [.null, .null, .ref q7, .ref q15, .ref q23, .null, .null, .null, .null, .null, .int (Int32.ofInt 0)])), (q7, .inl (cA 0, 120, .inl (fun _ => Int32.ofInt 0))), (q15, .inl (cA 0, 120, .inl (fun _ => Int32.ofInt 0))), (q23, .inl (cA 0, 120, .inl (fun _ => Int32.ofInt 0)))] H := hP
  have hD : va_D A [(h0, .inr (7, [.null, .null, .ref q7, .ref q15, .ref q23, .null, .null, .null, .null, .null, .int (Int32.ofInt 0)])), (q7, .inl (cA 0, 120, .inl (fun _ => Int32.ofInt 0))), (q15, .inl (cA 0, 120, .inl (fun _ => Int32.ofInt 0))), (q23, .inl (cA 0, 120, .inl (fun _ => Int32.ofInt 0)))] := hD
  refine lv_aload_n hx hb dX7_init_28 rfl (lv_at hl 0 rfl) ?_
  refine lv_bipush (v := Int32.ofInt (120)) hx hb dX7_init_29 (by decide) ?_
  refine cw_newa (atype := .int) (ty := .int) (a0 := (120, .inl (fun _ => Int32.ofInt 0))) (t0 := 0) (c1 := cA 0) (N' := 120) hx hb (ht _ ac__int) rfl hK hP hD hS hA (fun _ => rfl) (by decide) (by decide) (Nat.le_of_ble_eq_true rfl) (Nat.le_of_ble_eq_true rfl) (Nat.le_of_ble_eq_true rfl) dX7_init_31 rfl (fun q31 H hP hD hS => ?_)
  have hP : va_P D vwCl [(h0, .inr (7, [.null, .null, .ref q7, .ref q15, .ref q23, .null, .null, .null, .null, .null, .int (Int32.ofInt 0)])), (q7, .inl (cA 0, 120, .inl (fun _ => Int32.ofInt 0))), (q15, .inl (cA 0, 120, .inl (fun _ => Int32.ofInt 0))), (q23, .inl (cA 0, 120, .inl (fun _ => Int32.ofInt 0))), (q31, .inl (cA 0, 120, .inl (fun _ => Int32.ofInt 0)))] H := hP
  have hD : va_D A [(h0, .inr (7, [.null, .null, .ref q7, .ref q15, .ref q23, .null, .null, .null, .null, .null, .int (Int32.ofInt 0)])), (q7, .inl (cA 0, 120, .inl (fun _ => Int32.ofInt 0))), (q15, .inl (cA 0, 120, .inl (fun _ => Int32.ofInt 0))), (q23, .inl (cA 0, 120, .inl (fun _ => Int32.ofInt 0))), (q31, .inl (cA 0, 120, .inl (fun _ => Int32.ofInt 0)))] := hD
  refine W.widen (k := 4) (n := 480) (by omega) (by omega) ?_
  refine va_putF (D := D) (ci := 7) (v := .ref q31) (ty := (.array .int)) (C := RX7) (T := TX7) (N := 11) (ref := RX7) hx hb ht inlX7 tyX7 tyX7_ok nmX7 hown hK hP hD hS 0 rfl rfl 5 (by decide) (ht _ lkX7_21) (fun _ h9 => h9) rfl hin rfl (by decide +kernel) rfl rfl (Nat.le_of_ble_eq_true rfl) dX7_init_33 (fun H locs hP hD hS => ?_)
  have hP : va_P D vwCl [(h0, .inr (7, [.null, .null, .ref q7, .ref q15, .ref q23, .ref q31, .null, .null, .null, .null, .int (Int32.ofInt 0)])), (q7, .inl (cA 0, 120, .inl (fun _ => Int32.ofInt 0))), (q15, .inl (cA 0, 120, .inl (fun _ => Int32.ofInt 0))), (q23, .inl (cA 0, 120, .inl (fun _ => Int32.ofInt 0))), (q31, .inl (cA 0, 120, .inl (fun _ => Int32.ofInt 0)))] H := hP
  have hD : va_D A [(h0, .inr (7, [.null, .null, .ref q7, .ref q15, .ref q23, .ref q31, .null, .null, .null, .null, .int (Int32.ofInt 0)])), (q7, .inl (cA 0, 120, .inl (fun _ => Int32.ofInt 0))), (q15, .inl (cA 0, 120, .inl (fun _ => Int32.ofInt 0))), (q23, .inl (cA 0, 120, .inl (fun _ => Int32.ofInt 0))), (q31, .inl (cA 0, 120, .inl (fun _ => Int32.ofInt 0)))] := hD
  refine lv_aload_n hx hb dX7_init_36 rfl (lv_at hl 0 rfl) ?_
  refine lv_bipush (v := Int32.ofInt (120)) hx hb dX7_init_37 (by decide) ?_
  refine cw_newa (atype := .int) (ty := .int) (a0 := (120, .inl (fun _ => Int32.ofInt 0))) (t0 := 0) (c1 := cA 0) (N' := 120) hx hb (ht _ ac__int) rfl hK hP hD hS hA (fun _ => rfl) (by decide) (by decide) (Nat.le_of_ble_eq_true rfl) (Nat.le_of_ble_eq_true rfl) (Nat.le_of_ble_eq_true rfl) dX7_init_39 rfl (fun q39 H hP hD hS => ?_)
  have hP : va_P D vwCl [(h0, .inr (7, [.null, .null, .ref q7, .ref q15, .ref q23, .ref q31, .null, .null, .null, .null, .int (Int32.ofInt 0)])), (q7, .inl (cA 0, 120, .inl (fun _ => Int32.ofInt 0))), (q15, .inl (cA 0, 120, .inl (fun _ => Int32.ofInt 0))), (q23, .inl (cA 0, 120, .inl (fun _ => Int32.ofInt 0))), (q31, .inl (cA 0, 120, .inl (fun _ => Int32.ofInt 0))), (q39, .inl (cA 0, 120, .inl (fun _ => Int32.ofInt 0)))] H := hP
  have hD : va_D A [(h0, .inr (7, [.null, .null, .ref q7, .ref q15, .ref q23, .ref q31, .null, .null, .null, .null, .int (Int32.ofInt 0)])), (q7, .inl (cA 0, 120, .inl (fun _ => Int32.ofInt 0))), (q15, .inl (cA 0, 120, .inl (fun _ => Int32.ofInt 0))), (q23, .inl (cA 0, 120, .inl (fun _ => Int32.ofInt 0))), (q31, .inl (cA 0, 120, .inl (fun _ => Int32.ofInt 0))), (q39, .inl (cA 0, 120, .inl (fun _ => Int32.ofInt 0)))] := hD
  refine W.widen (k := 5) (n := 600) (by omega) (by omega) ?_
  refine va_putF (D := D) (ci := 7) (v := .ref q39) (ty := (.array .int)) (C := RX7) (T := TX7) (N := 11) (ref := RX7) hx hb ht inlX7 tyX7 tyX7_ok nmX7 hown hK hP hD hS 0 rfl rfl 6 (by decide) (ht _ lkX7_24) (fun _ h9 => h9) rfl hin rfl (by decide +kernel) rfl rfl (Nat.le_of_ble_eq_true rfl) dX7_init_41 (fun H locs hP hD hS => ?_)
  have hP : va_P D vwCl [(h0, .inr (7, [.null, .null, .ref q7, .ref q15, .ref q23, .ref q31, .ref q39, .null, .null, .null, .int (Int32.ofInt 0)])), (q7, .inl (cA 0, 120, .inl (fun _ => Int32.ofInt 0))), (q15, .inl (cA 0, 120, .inl (fun _ => Int32.ofInt 0))), (q23, .inl (cA 0, 120, .inl (fun _ => Int32.ofInt 0))), (q31, .inl (cA 0, 120, .inl (fun _ => Int32.ofInt 0))), (q39, .inl (cA 0, 120, .inl (fun _ => Int32.ofInt 0)))] H := hP
  have hD : va_D A [(h0, .inr (7, [.null, .null, .ref q7, .ref q15, .ref q23, .ref q31, .ref q39, .null, .null, .null, .int (Int32.ofInt 0)])), (q7, .inl (cA 0, 120, .inl (fun _ => Int32.ofInt 0))), (q15, .inl (cA 0, 120, .inl (fun _ => Int32.ofInt 0))), (q23, .inl (cA 0, 120, .inl (fun _ => Int32.ofInt 0))), (q31, .inl (cA 0, 120, .inl (fun _ => Int32.ofInt 0))), (q39, .inl (cA 0, 120, .inl (fun _ => Int32.ofInt 0)))] := hD
  refine lv_aload_n hx hb dX7_init_44 rfl (lv_at hl 0 rfl) ?_
  refine lv_bipush (v := Int32.ofInt (120)) hx hb dX7_init_45 (by decide) ?_
  refine cw_newa (atype := .int) (ty := .int) (a0 := (120, .inl (fun _ => Int32.ofInt 0))) (t0 := 0) (c1 := cA 0) (N' := 120) hx hb (ht _ ac__int) rfl hK hP hD hS hA (fun _ => rfl) (by decide) (by decide) (Nat.le_of_ble_eq_true rfl) (Nat.le_of_ble_eq_true rfl) (Nat.le_of_ble_eq_true rfl) dX7_init_47 rfl (fun q47 H hP hD hS => ?_)
  have hP : va_P D vwCl [(h0, .inr (7, [.null, .null, .ref q7, .ref q15, .ref q23, .ref q31, .ref q39, .null, .null, .null, .int (Int32.ofInt 0)])), (q7, .inl (cA 0, 120, .inl (fun _ => Int32.ofInt 0))), (q15, .inl (cA 0, 120, .inl (fun _ => Int32.ofInt 0))), (q23, .inl (cA 0, 120, .inl (fun _ => Int32.ofInt 0))), (q31, .inl (cA 0, 120, .inl (fun _ => Int32.ofInt 0))), (q39, .inl (cA 0, 120, .inl (fun _ => Int32.ofInt 0))), (q47, .inl (cA 0, 120, .inl (fun _ => Int32.ofInt 0)))] H := hP
  have hD : va_D A [(h0, .inr (7, [.null, .null, .ref q7, .ref q15, .ref q23, .ref q31, .ref q39, .null, .null, .null, .int (Int32.ofInt 0)])), (q7, .inl (cA 0, 120, .inl (fun _ => Int32.ofInt 0))), (q15, .inl (cA 0, 120, .inl (fun _ => Int32.ofInt 0))), (q23, .inl (cA 0, 120, .inl (fun _ => Int32.ofInt 0))), (q31, .inl (cA 0, 120, .inl (fun _ => Int32.ofInt 0))), (q39, .inl (cA 0, 120, .inl (fun _ => Int32.ofInt 0))), (q47, .inl (cA 0, 120, .inl (fun _ => Int32.ofInt 0)))] := hD
  refine W.widen (k := 6) (n := 720) (by omega) (by omega) ?_
  refine va_putF (D := D) (ci := 7) (v := .ref q47) (ty := (.array .int)) (C := RX7) (T := TX7) (N := 11) (ref := RX7) hx hb ht inlX7 tyX7 tyX7_ok nmX7 hown hK hP hD hS 0 rfl rfl 7 (by decide) (ht _ lkX7_27) (fun _ h9 => h9) rfl hin rfl (by decide +kernel) rfl rfl (Nat.le_of_ble_eq_true rfl) dX7_init_49 (fun H locs hP hD hS => ?_)
  have hP : va_P D vwCl [(h0, .inr (7, [.null, .null, .ref q7, .ref q15, .ref q23, .ref q31, .ref q39, .ref q47, .null, .null, .int (Int32.ofInt 0)])), (q7, .inl (cA 0, 120, .inl (fun _ => Int32.ofInt 0))), (q15, .inl (cA 0, 120, .inl (fun _ => Int32.ofInt 0))), (q23, .inl (cA 0, 120, .inl (fun _ => Int32.ofInt 0))), (q31, .inl (cA 0, 120, .inl (fun _ => Int32.ofInt 0))), (q39, .inl (cA 0, 120, .inl (fun _ => Int32.ofInt 0))), (q47, .inl (cA 0, 120, .inl (fun _ => Int32.ofInt 0)))] H := hP
  have hD : va_D A [(h0, .inr (7, [.null, .null, .ref q7, .ref q15, .ref q23, .ref q31, .ref q39, .ref q47, .null, .null, .int (Int32.ofInt 0)])), (q7, .inl (cA 0, 120, .inl (fun _ => Int32.ofInt 0))), (q15, .inl (cA 0, 120, .inl (fun _ => Int32.ofInt 0))), (q23, .inl (cA 0, 120, .inl (fun _ => Int32.ofInt 0))), (q31, .inl (cA 0, 120, .inl (fun _ => Int32.ofInt 0))), (q39, .inl (cA 0, 120, .inl (fun _ => Int32.ofInt 0))), (q47, .inl (cA 0, 120, .inl (fun _ => Int32.ofInt 0)))] := hD
  refine lv_aload_n hx hb dX7_init_52 rfl (lv_at hl 0 rfl) ?_
  refine lv_bipush (v := Int32.ofInt (120)) hx hb dX7_init_53 (by decide) ?_
  refine cw_newa (atype := .int) (ty := .int) (a0 := (120, .inl (fun _ => Int32.ofInt 0))) (t0 := 0) (c1 := cA 0) (N' := 120) hx hb (ht _ ac__int) rfl hK hP hD hS hA (fun _ => rfl) (by decide) (by decide) (Nat.le_of_ble_eq_true rfl) (Nat.le_of_ble_eq_true rfl) (Nat.le_of_ble_eq_true rfl) dX7_init_55 rfl (fun q55 H hP hD hS => ?_)
  have hP : va_P D vwCl [(h0, .inr (7, [.null, .null, .ref q7, .ref q15, .ref q23, .ref q31, .ref q39, .ref q47, .null, .null, .int (Int32.ofInt 0)])), (q7, .inl (cA 0, 120, .inl (fun _ => Int32.ofInt 0))), (q15, .inl (cA 0, 120, .inl (fun _ => Int32.ofInt 0))), (q23, .inl (cA 0, 120, .inl (fun _ => Int32.ofInt 0))), (q31, .inl (cA 0, 120, .inl (fun _ => Int32.ofInt 0))), (q39, .inl (cA 0, 120, .inl (fun _ => Int32.ofInt 0))), (q47, .inl (cA 0, 120, .inl (fun _ => Int32.ofInt 0))), (q55, .inl (cA 0, 120, .inl (fun _ => Int32.ofInt 0)))] H := hP
  have hD : va_D A [(h0, .inr (7, [.null, .null, .ref q7, .ref q15, .ref q23, .ref q31, .ref q39, .ref q47, .null, .null, .int (Int32.ofInt 0)])), (q7, .inl (cA 0, 120, .inl (fun _ => Int32.ofInt 0))), (q15, .inl (cA 0, 120, .inl (fun _ => Int32.ofInt 0))), (q23, .inl (cA 0, 120, .inl (fun _ => Int32.ofInt 0))), (q31, .inl (cA 0, 120, .inl (fun _ => Int32.ofInt 0))), (q39, .inl (cA 0, 120, .inl (fun _ => Int32.ofInt 0))), (q47, .inl (cA 0, 120, .inl (fun _ => Int32.ofInt 0))), (q55, .inl (cA 0, 120, .inl (fun _ => Int32.ofInt 0)))] := hD
  refine W.widen (k := 7) (n := 840) (by omega) (by omega) ?_
  refine va_putF (D := D) (ci := 7) (v := .ref q55) (ty := (.array .int)) (C := RX7) (T := TX7) (N := 11) (ref := RX7) hx hb ht inlX7 tyX7 tyX7_ok nmX7 hown hK hP hD hS 0 rfl rfl 8 (by decide) (ht _ lkX7_30) (fun _ h9 => h9) rfl hin rfl (by decide +kernel) rfl rfl (Nat.le_of_ble_eq_true rfl) dX7_init_57 (fun H locs hP hD hS => ?_)
  have hP : va_P D vwCl [(h0, .inr (7, [.null, .null, .ref q7, .ref q15, .ref q23, .ref q31, .ref q39, .ref q47, .ref q55, .null, .int (Int32.ofInt 0)])), (q7, .inl (cA 0, 120, .inl (fun _ => Int32.ofInt 0))), (q15, .inl (cA 0, 120, .inl (fun _ => Int32.ofInt 0))), (q23, .inl (cA 0, 120, .inl (fun _ => Int32.ofInt 0))), (q31, .inl (cA 0, 120, .inl (fun _ => Int32.ofInt 0))), (q39, .inl (cA 0, 120, .inl (fun _ => Int32.ofInt 0))), (q47, .inl (cA 0, 120, .inl (fun _ => Int32.ofInt 0))), (q55, .inl (cA 0, 120, .inl (fun _ => Int32.ofInt 0)))] H := hP
  have hD : va_D A [(h0, .inr (7, [.null, .null, .ref q7, .ref q15, .ref q23, .ref q31, .ref q39, .ref q47, .ref q55, .null, .int (Int32.ofInt 0)])), (q7, .inl (cA 0, 120, .inl (fun _ => Int32.ofInt 0))), (q15, .inl (cA 0, 120, .inl (fun _ => Int32.ofInt 0))), (q23, .inl (cA 0, 120, .inl (fun _ => Int32.ofInt 0))), (q31, .inl (cA 0, 120, .inl (fun _ => Int32.ofInt 0))), (q39, .inl (cA 0, 120, .inl (fun _ => Int32.ofInt 0))), (q47, .inl (cA 0, 120, .inl (fun _ => Int32.ofInt 0))), (q55, .inl (cA 0, 120, .inl (fun _ => Int32.ofInt 0)))] := hD
  refine lv_aload_n hx hb dX7_init_60 rfl (lv_at hl 0 rfl) ?_
  refine lv_bipush (v := Int32.ofInt (120)) hx hb dX7_init_61 (by decide) ?_
  refine cw_newa (atype := .int) (ty := .int) (a0 := (120, .inl (fun _ => Int32.ofInt 0))) (t0 := 0) (c1 := cA 0) (N' := 120) hx hb (ht _ ac__int) rfl hK hP hD hS hA (fun _ => rfl) (by decide) (by decide) (Nat.le_of_ble_eq_true rfl) (Nat.le_of_ble_eq_true rfl) (Nat.le_of_ble_eq_true rfl) dX7_init_63 rfl (fun q63 H hP hD hS => ?_)
  have hP : va_P D vwCl [(h0, .inr (7, [.null, .null, .ref q7, .ref q15, .ref q23, .ref q31, .ref q39, .ref q47, .ref q55, .null, .int (Int32.ofInt 0)])), (q7, .inl (cA 0, 120, .inl (fun _ => Int32.ofInt 0))), (q15, .inl (cA 0, 120, .inl (fun _ => Int32.ofInt 0))), (q23, .inl (cA 0, 120, .inl (fun _ => Int32.ofInt 0))), (q31, .inl (cA 0, 120, .inl (fun _ => Int32.ofInt 0))), (q39, .inl (cA 0, 120, .inl (fun _ => Int32.ofInt 0))), (q47, .inl (cA 0, 120, .inl (fun _ => Int32.ofInt 0))), (q55, .inl (cA 0, 120, .inl (fun _ => Int32.ofInt 0))), (q63, .inl (cA 0, 120, .inl (fun _ => Int32.ofInt 0)))] H := hP
  have hD : va_D A [(h0, .inr (7, [.null, .null, .ref q7, .ref q15, .ref q23, .ref q31, .ref q39, .ref q47, .ref q55, .null, .int (Int32.ofInt 0)])), (q7, .inl (cA 0, 120, .inl (fun _ => Int32.ofInt 0))), (q15, .inl (cA 0, 120, .inl (fun _ => Int32.ofInt 0))), (q23, .inl (cA 0, 120, .inl (fun _ => Int32.ofInt 0))), (q31, .inl (cA 0, 120, .inl (fun _ => Int32.ofInt 0))), (q39, .inl (cA 0, 120, .inl (fun _ => Int32.ofInt 0))), (q47, .inl (cA 0, 120, .inl (fun _ => Int32.ofInt 0))), (q55, .inl (cA 0, 120, .inl (fun _ => Int32.ofInt 0))), (q63, .inl (cA 0, 120, .inl (fun _ => Int32.ofInt 0)))] := hD
  refine W.widen (k := 8) (n := 960) (by omega) (by omega) ?_
  refine va_putF (D := D) (ci := 7) (v := .ref q63) (ty := (.array .int)) (C := RX7) (T := TX7) (N := 11) (ref := RX7) hx hb ht inlX7 tyX7 tyX7_ok nmX7 hown hK hP hD hS 0 rfl rfl 9 (by decide) (ht _ lkX7_33) (fun _ h9 => h9) rfl hin rfl (by decide +kernel) rfl rfl (Nat.le_of_ble_eq_true rfl) dX7_init_65 (fun H locs hP hD hS => ?_)
  have hP : va_P D vwCl [(h0, .inr (7, [.null, .null, .ref q7, .ref q15, .ref q23, .ref q31, .ref q39, .ref q47, .ref q55, .ref q63, .int (Int32.ofInt 0)])), (q7, .inl (cA 0, 120, .inl (fun _ => Int32.ofInt 0))), (q15, .inl (cA 0, 120, .inl (fun _ => Int32.ofInt 0))), (q23, .inl (cA 0, 120, .inl (fun _ => Int32.ofInt 0))), (q31, .inl (cA 0, 120, .inl (fun _ => Int32.ofInt 0))), (q39, .inl (cA 0, 120, .inl (fun _ => Int32.ofInt 0))), (q47, .inl (cA 0, 120, .inl (fun _ => Int32.ofInt 0))), (q55, .inl (cA 0, 120, .inl (fun _ => Int32.ofInt 0))), (q63, .inl (cA 0, 120, .inl (fun _ => Int32.ofInt 0)))] H := hP
  have hD : va_D A [(h0, .inr (7, [.null, .null, .ref q7, .ref q15, .ref q23, .ref q31, .ref q39, .ref q47, .ref q55, .ref q63, .int (Int32.ofInt 0)])), (q7, .inl (cA 0, 120, .inl (fun _ => Int32.ofInt 0))), (q15, .inl (cA 0, 120, .inl (fun _ => Int32.ofInt 0))), (q23, .inl (cA 0, 120, .inl (fun _ => Int32.ofInt 0))), (q31, .inl (cA 0, 120, .inl (fun _ => Int32.ofInt 0))), (q39, .inl (cA 0, 120, .inl (fun _ => Int32.ofInt 0))), (q47, .inl (cA 0, 120, .inl (fun _ => Int32.ofInt 0))), (q55, .inl (cA 0, 120, .inl (fun _ => Int32.ofInt 0))), (q63, .inl (cA 0, 120, .inl (fun _ => Int32.ofInt 0)))] := hD
  refine lv_aload_n hx hb dX7_init_68 rfl (lv_at hl 0 rfl) ?_
  refine lv_aload_n hx hb dX7_init_69 rfl (lv_at hl 1 rfl) ?_
  refine va_putF (D := D) (ci := 7) (v := .ref a1) (ty := (.object "ThreeHundred$Shoes")) (C := RX7) (T := TX7) (N := 11) (ref := RX7) hx hb ht inlX7 tyX7 tyX7_ok nmX7 hown hK hP hD hS 0 rfl rfl 0 (by decide) (ht _ lkX7_36) (fun _ h9 => h9) rfl hin rfl (by decide +kernel) rfl rfl (Nat.le_of_ble_eq_true rfl) dX7_init_70 (fun H locs hP hD hS => ?_)
  have hP : va_P D vwCl [(h0, .inr (7, [.ref a1, .null, .ref q7, .ref q15, .ref q23, .ref q31, .ref q39, .ref q47, .ref q55, .ref q63, .int (Int32.ofInt 0)])), (q7, .inl (cA 0, 120, .inl (fun _ => Int32.ofInt 0))), (q15, .inl (cA 0, 120, .inl (fun _ => Int32.ofInt 0))), (q23, .inl (cA 0, 120, .inl (fun _ => Int32.ofInt 0))), (q31, .inl (cA 0, 120, .inl (fun _ => Int32.ofInt 0))), (q39, .inl (cA 0, 120, .inl (fun _ => Int32.ofInt 0))), (q47, .inl (cA 0, 120, .inl (fun _ => Int32.ofInt 0))), (q55, .inl (cA 0, 120, .inl (fun _ => Int32.ofInt 0))), (q63, .inl (cA 0, 120, .inl (fun _ => Int32.ofInt 0)))] H := hP
  have hD : va_D A [(h0, .inr (7, [.ref a1, .null, .ref q7, .ref q15, .ref q23, .ref q31, .ref q39, .ref q47, .ref q55, .ref q63, .int (Int32.ofInt 0)])), (q7, .inl (cA 0, 120, .inl (fun _ => Int32.ofInt 0))), (q15, .inl (cA 0, 120, .inl (fun _ => Int32.ofInt 0))), (q23, .inl (cA 0, 120, .inl (fun _ => Int32.ofInt 0))), (q31, .inl (cA 0, 120, .inl (fun _ => Int32.ofInt 0))), (q39, .inl (cA 0, 120, .inl (fun _ => Int32.ofInt 0))), (q47, .inl (cA 0, 120, .inl (fun _ => Int32.ofInt 0))), (q55, .inl (cA 0, 120, .inl (fun _ => Int32.ofInt 0))), (q63, .inl (cA 0, 120, .inl (fun _ => Int32.ofInt 0)))] := hD
  refine lv_aload_n hx hb dX7_init_73 rfl (lv_at hl 0 rfl) ?_
  refine lv_aload_n hx hb dX7_init_74 rfl (lv_at hl 2 rfl) ?_
  refine va_putF (D := D) (ci := 7) (v := .ref a2) (ty := (.object "ThreeHundred$Courses")) (C := RX7) (T := TX7) (N := 11) (ref := RX7) hx hb ht inlX7 tyX7 tyX7_ok nmX7 hown hK hP hD hS 0 rfl rfl 1 (by decide) (ht _ lkX7_40) (fun _ h9 => h9) rfl hin rfl (by decide +kernel) rfl rfl (Nat.le_of_ble_eq_true rfl) dX7_init_75 (fun H locs hP hD hS => ?_)
  have hP : va_P D vwCl [(h0, .inr (7, [.ref a1, .ref a2, .ref q7, .ref q15, .ref q23, .ref q31, .ref q39, .ref q47, .ref q55, .ref q63, .int (Int32.ofInt 0)])), (q7, .inl (cA 0, 120, .inl (fun _ => Int32.ofInt 0))), (q15, .inl (cA 0, 120, .inl (fun _ => Int32.ofInt 0))), (q23, .inl (cA 0, 120, .inl (fun _ => Int32.ofInt 0))), (q31, .inl (cA 0, 120, .inl (fun _ => Int32.ofInt 0))), (q39, .inl (cA 0, 120, .inl (fun _ => Int32.ofInt 0))), (q47, .inl (cA 0, 120, .inl (fun _ => Int32.ofInt 0))), (q55, .inl (cA 0, 120, .inl (fun _ => Int32.ofInt 0))), (q63, .inl (cA 0, 120, .inl (fun _ => Int32.ofInt 0)))] H := hP
  have hD : va_D A [(h0, .inr (7, [.ref a1, .ref a2, .ref q7, .ref q15, .ref q23, .ref q31, .ref q39, .ref q47, .ref q55, .ref q63, .int (Int32.ofInt 0)])), (q7, .inl (cA 0, 120, .inl (fun _ => Int32.ofInt 0))), (q15, .inl (cA 0, 120, .inl (fun _ => Int32.ofInt 0))), (q23, .inl (cA 0, 120, .inl (fun _ => Int32.ofInt 0))), (q31, .inl (cA 0, 120, .inl (fun _ => Int32.ofInt 0))), (q39, .inl (cA 0, 120, .inl (fun _ => Int32.ofInt 0))), (q47, .inl (cA 0, 120, .inl (fun _ => Int32.ofInt 0))), (q55, .inl (cA 0, 120, .inl (fun _ => Int32.ofInt 0))), (q63, .inl (cA 0, 120, .inl (fun _ => Int32.ofInt 0)))] := hD
  have hP9 := hP.sub (ws' := [(h0, .inr (7, [.ref a1, .ref a2, .ref q7, .ref q15, .ref q23, .ref q31, .ref q39, .ref q47, .ref q55, .ref q63, .int (Int32.ofInt 0)])), (q7, .inl (cA 0, 120, .inl (fun _ => Int32.ofInt 0))), (q15, .inl (cA 0, 120, .inl (fun _ => Int32.ofInt 0))), (q23, .inl (cA 0, 120, .inl (fun _ => Int32.ofInt 0))), (q31, .inl (cA 0, 120, .inl (fun _ => Int32.ofInt 0))), (q39, .inl (cA 0, 120, .inl (fun _ => Int32.ofInt 0))), (q47, .inl (cA 0, 120, .inl (fun _ => Int32.ofInt 0))), (q55, .inl (cA 0, 120, .inl (fun _ => Int32.ofInt 0))), (q63, .inl (cA 0, 120, .inl (fun _ => Int32.ofInt 0)))]) [0, 1, 2, 3, 4, 5, 6, 7, 8] rfl
  have hD9 := hD.sub (ws' := [(h0, .inr (7, [.ref a1, .ref a2, .ref q7, .ref q15, .ref q23, .ref q31, .ref q39, .ref q47, .ref q55, .ref q63, .int (Int32.ofInt 0)])), (q7, .inl (cA 0, 120, .inl (fun _ => Int32.ofInt 0))), (q15, .inl (cA 0, 120, .inl (fun _ => Int32.ofInt 0))), (q23, .inl (cA 0, 120, .inl (fun _ => Int32.ofInt 0))), (q31, .inl (cA 0, 120, .inl (fun _ => Int32.ofInt 0))), (q39, .inl (cA 0, 120, .inl (fun _ => Int32.ofInt 0))), (q47, .inl (cA 0, 120, .inl (fun _ => Int32.ofInt 0))), (q55, .inl (cA 0, 120, .inl (fun _ => Int32.ofInt 0))), (q63, .inl (cA 0, 120, .inl (fun _ => Int32.ofInt 0)))]) [0, 1, 2, 3, 4, 5, 6, 7, 8] (by decide) rfl
  exact W.vret hx hb hr (fun t ht2 hW => ⟨⟨(), rfl, trivial, fun i => [q7, q15, q23, q31, q39, q47, q55, q63].getD i 0, by rw [ht2]; exact hP9, hD9⟩, hS.F ht2⟩) hS.2.2 dX7_init_78
set_option maxHeartbeats 8000000 in
set_option maxRecDepth 100000 in
theorem k_X3_init (l : Launch) (D : va_G) (cA : Nat → ClassId) (h0 : Nat) (a1 : Nat) (a2 : Nat) (sz : Nat) : Met l yX3_init (.code yX3_init cX3_init 3 none :: wsL_law) ({ frames := 2, cells := 4, slots := 160, locals := 64 }) (va_Pc [.ref h0, .ref a1, .ref a2] (fun U => U.heap.size = sz ∧ va_P D vwCl [(h0, .inr (3, [.null, .null, .null, .null, .null, .null, .int (Int32.ofInt 0), .int (Int32.ofInt 0)]))] U.heap ∧ va_K D vwCl (tysOf cA) U ∧ ct_O U ∧ va_D (fun _ => True) [(h0, .inr (3, [.null, .null, .null, .null, .null, .null, .int (Int32.ofInt 0), .int (Int32.ofInt 0)]))])) (va_Qv (fun _ : Unit => True) (fun _ t => ∃ f : Nat → Nat, va_P D vwCl [(h0, .inr (3, [.ref a1, .ref a2, .ref (f 0), .ref (f 1), .ref (f 2), .ref (f 3), .int (Int32.ofInt 0), .int (Int32.ofInt 0)])), (f 0, .inl (cA 0, 40, .inl (fun _ => Int32.ofInt 0))), (f 1, .inl (cA 0, 40, .inl (fun _ => Int32.ofInt 0))), (f 2, .inl (cA 0, 40, .inl (fun _ => Int32.ofInt 0))), (f 3, .inl (cA 0, 40, .inl (fun _ => Int32.ofInt 0)))] t.heap ∧ va_D (va_A [(h0, .inr (3, [.null, .null, .null, .null, .null, .null, .int (Int32.ofInt 0), .int (Int32.ofInt 0)]))] sz) [(h0, .inr (3, [.ref a1, .ref a2, .ref (f 0), .ref (f 1), .ref (f 2), .ref (f 3), .int (Int32.ofInt 0), .int (Int32.ofInt 0)])), (f 0, .inl (cA 0, 40, .inl (fun _ => Int32.ofInt 0))), (f 1, .inl (cA 0, 40, .inl (fun _ => Int32.ofInt 0))), (f 2, .inl (cA 0, 40, .inl (fun _ => Int32.ofInt 0))), (f 3, .inl (cA 0, 40, .inl (fun _ => Int32.ofInt 0)))]) (va_A [(h0, .inr (3, [.null, .null, .null, .null, .null, .null, .int (Int32.ofInt 0), .int (Int32.ofInt 0)]))] sz)) 4 160 (va_A [(h0, .inr (3, [.null, .null, .null, .null, .null, .null, .int (Int32.ofInt 0), .int (Int32.ofInt 0)]))] sz) := by
  refine Met.ofW (cc := cX3_init) (maxL := 3) (ret := none) (by decide +kernel) rfl ?_
  intro p e s m args below meth c s₁ B hml hv
  obtain ⟨rfl, hsz, hP, hK, hO, hD0⟩ := hv
  have hx := B.exec
  have hb := B.bytes
  have hr := B.returns
  have hts := atoms_spec (ws := .code yX3_init cX3_init 3 none :: wsL_law) B.pre
  have ht : ∀ w ∈ wsL_law, w.before _ s = true := fun w hw => hts w (List.mem_cons_of_mem _ hw)
  have hown : s.vm.findClass RX3 = some m.cls := findClass_of_methodNamed B.named
  have hlocks := B.notSynchronized
  have hin : meth.name = "<init>" := (name_of_methodNamed B.named B.method).1
  subst hsz
  have hD := hD0.self (sz := s.heap.size)
  generalize hAe : va_A [(h0, .inr (3, [.null, .null, .null, .null, .null, .null, .int (Int32.ofInt 0), .int (Int32.ofInt 0)]))] s.heap.size = A at hD ⊢
  have hA : ∀ q : Nat, s.heap.size ≤ q → A q := fun q h => by rw [← hAe]; exact Or.inr h
  have hS : va_S A s.heap s.heap [] := va_S.rf
  have hP : va_P D vwCl [(h0, .inr (3, [.null, .null, .null, .null, .null, .null, .int (Int32.ofInt 0), .int (Int32.ofInt 0)]))] s.heap := hP
  have hl := lv_entry ([.ref h0, .ref a1, .ref a2]) (n := 3) (Nat.le_of_ble_eq_true rfl)
  rw [lg_entry_eq]
  generalize (lg_sl ([.ref h0, .ref a1, .ref a2]) ++ List.replicate (3 - (lg_sl ([.ref h0, .ref a1, .ref a2])).length) Slot.unset).toArray = ls at hl ⊢
  have hl : lv_has ls 3 [(0, .ref h0), (1, .ref a1), (2, .ref a2)] := hl
  refine lv_aload_n hx hb dX3_init_0 rfl (lv_at hl 0 rfl) ?_
  refine W.objInit hx hb hown (ht _ mlX3_3) (ht _ im_objectInit) (ht _ cd_objectInit) rfl (by rw [hml]; exact hl.1) rfl dX3_init_1 (Nat.le_of_ble_eq_true rfl) (Nat.le_of_ble_eq_true rfl) ?_
  refine W.eq (g2 := F0 m 4 ls []) rfl ?_
  refine lv_aload_n hx hb dX3_init_4 rfl (lv_at hl 0 rfl) ?_
  refine lv_bipush (v := Int32.ofInt (40)) hx hb dX3_init_5 (by decide) ?_
  refine cw_newa (atype := .int) (ty := .int) (a0 := (40, .inl (fun _ => Int32.ofInt 0))) (t0 := 0) (c1 := cA 0) (N' := 40) hx hb (ht _ ac__int) rfl hK hP hD hS hA (fun _ => rfl) (by decide) (by decide) (Nat.le_of_ble_eq_true rfl) (Nat.le_of_ble_eq_true rfl) (Nat.le_of_ble_eq_true rfl) dX3_init_7 rfl (fun q7 H hP hD hS => ?_)
  have hP : va_P D vwCl [(h0, .inr (3, [.null, .null, .null, .null, .null, .null, .int (Int32.ofInt 0), .int (Int32.ofInt 0)])), (q7, .inl (cA 0, 40, .inl (fun _ => Int32.ofInt 0)))] H := hP
  have hD : va_D A [(h0, .inr (3, [.null, .null, .null, .null, .null, .null, .int (Int32.ofInt 0), .int (Int32.ofInt 0)])), (q7, .inl (cA 0, 40, .inl (fun _ => Int32.ofInt 0)))] := hD
  refine W.widen (k := 1) (n := 40) (by omega) (by omega) ?_
  refine va_putF (D := D) (ci := 3) (v := .ref q7) (ty := (.array .int)) (C := RX3) (T := TX3) (N := 8) (ref := RX3) hx hb ht inlX3 tyX3 tyX3_ok nmX3 hown hK hP hD hS 0 rfl rfl 2 (by decide) (ht _ lkX3_9) (fun _ h9 => h9) rfl hin rfl (by decide +kernel) rfl rfl (Nat.le_of_ble_eq_true rfl) dX3_init_9 (fun H locs hP hD hS => ?_)
  have hP : va_P D vwCl [(h0, .inr (3, [.null, .null, .ref q7, .null, .null, .null, .int (Int32.ofInt 0), .int (Int32.ofInt 0)])), (q7, .inl (cA 0, 40, .inl (fun _ => Int32.ofInt 0)))] H := hP
  have hD : va_D A [(h0, .inr (3, [.null, .null, .ref q7, .null, .null, .null, .int (Int32.ofInt 0), .int (Int32.ofInt 0)])), (q7, .inl (cA 0, 40, .inl (fun _ => Int32.ofInt 0)))] := hD
  refine lv_aload_n hx hb dX3_init_12 rfl (lv_at hl 0 rfl) ?_
  refine lv_bipush (v := Int32.ofInt (40)) hx hb dX3_init_13 (by decide) ?_
  refine cw_newa (atype := .int) (ty := .int) (a0 := (40, .inl (fun _ => Int32.ofInt 0))) (t0 := 0) (c1 := cA 0) (N' := 40) hx hb (ht _ ac__int) rfl hK hP hD hS hA (fun _ => rfl) (by decide) (by decide) (Nat.le_of_ble_eq_true rfl) (Nat.le_of_ble_eq_true rfl) (Nat.le_of_ble_eq_true rfl) dX3_init_15 rfl (fun q15 H hP hD hS => ?_)
  have hP : va_P D vwCl [(h0, .inr (3, [.null, .null, .ref q7, .null, .null, .null, .int (Int32.ofInt 0), .int (Int32.ofInt 0)])), (q7, .inl (cA 0, 40, .inl (fun _ => Int32.ofInt 0))), (q15, .inl (cA 0, 40, .inl (fun _ => Int32.ofInt 0)))] H := hP
  have hD : va_D A [(h0, .inr (3, [.null, .null, .ref q7, .null, .null, .null, .int (Int32.ofInt 0), .int (Int32.ofInt 0)])), (q7, .inl (cA 0, 40, .inl (fun _ => Int32.ofInt 0))), (q15, .inl (cA 0, 40, .inl (fun _ => Int32.ofInt 0)))] := hD
  refine W.widen (k := 2) (n := 80) (by omega) (by omega) ?_
  refine va_putF (D := D) (ci := 3) (v := .ref q15) (ty := (.array .int)) (C := RX3) (T := TX3) (N := 8) (ref := RX3) hx hb ht inlX3 tyX3 tyX3_ok nmX3 hown hK hP hD hS 0 rfl rfl 3 (by decide) (ht _ lkX3_15) (fun _ h9 => h9) rfl hin rfl (by decide +kernel) rfl rfl (Nat.le_of_ble_eq_true rfl) dX3_init_17 (fun H locs hP hD hS => ?_)
  have hP : va_P D vwCl [(h0, .inr (3, [.null, .null, .ref q7, .ref q15, .null, .null, .int (Int32.ofInt 0), .int (Int32.ofInt 0)])), (q7, .inl (cA 0, 40, .inl (fun _ => Int32.ofInt 0))), (q15, .inl (cA 0, 40, .inl (fun _ => Int32.ofInt 0)))] H := hP
  have hD : va_D A [(h0, .inr (3, [.null, .null, .ref q7, .ref q15, .null, .null, .int (Int32.ofInt 0), .int (Int32.ofInt 0)])), (q7, .inl (cA 0, 40, .inl (fun _ => Int32.ofInt 0))), (q15, .inl (cA 0, 40, .inl (fun _ => Int32.ofInt 0)))] := hD
  refine lv_aload_n hx hb dX3_init_20 rfl (lv_at hl 0 rfl) ?_
  refine lv_bipush (v := Int32.ofInt (40)) hx hb dX3_init_21 (by decide) ?_
  refine cw_newa (atype := .int) (ty := .int) (a0 := (40, .inl (fun _ => Int32.ofInt 0))) (t0 := 0) (c1 := cA 0) (N' := 40) hx hb (ht _ ac__int) rfl hK hP hD hS hA (fun _ => rfl) (by decide) (by decide) (Nat.le_of_ble_eq_true rfl) (Nat.le_of_ble_eq_true rfl) (Nat.le_of_ble_eq_true rfl) dX3_init_23 rfl (fun q23 H hP hD hS => ?_)
  have hP : va_P D vwCl [(h0, .inr (3, [.null, .null, .ref q7, .ref q15, .null, .null, .int (Int32.ofInt 0), .int (Int32.ofInt 0)])), (q7, .inl (cA 0, 40, .inl (fun _ => Int32.ofInt 0))), (q15, .inl (cA 0, 40, .inl (fun _ => Int32.ofInt 0))), (q23, .inl (cA 0, 40, .inl (fun _ => Int32.ofInt 0)))] H := hP
  have hD : va_D A [(h0, .inr (3, [.null, .null, .ref q7, .ref q15, .null, .null, .int (Int32.ofInt 0), .int (Int32.ofInt 0)])), (q7, .inl (cA 0, 40, .inl (fun _ => Int32.ofInt 0))), (q15, .inl (cA 0, 40, .inl (fun _ => Int32.ofInt 0))), (q23, .inl (cA 0, 40, .inl (fun _ => Int32.ofInt 0)))] := hD
  refine W.widen (k := 3) (n := 120) (by omega) (by omega) ?_
  refine va_putF (D := D) (ci := 3) (v := .ref q23) (ty := (.array .int)) (C := RX3) (T := TX3) (N := 8) (ref := RX3) hx hb ht inlX3 tyX3 tyX3_ok nmX3 hown hK hP hD hS 0 rfl rfl 4 (by decide) (ht _ lkX3_18) (fun _ h9 => h9) rfl hin rfl (by decide +kernel) rfl rfl (Nat.le_of_ble_eq_true rfl) dX3_init_25 (fun H locs hP hD hS => ?_)
  have hP : va_P D vwCl [(h0, .inr (3, [.null, .null, .ref q7, .ref q15, .ref q23, .null, .int (Int32.ofInt 0), .int (Int32.ofInt 0)])), (q7, .inl (cA 0, 40, .inl (fun _ => Int32.ofInt 0))), (q15, .inl (cA 0, 40, .inl (fun _ => Int32.ofInt 0))), (q23, .inl (cA 0, 40, .inl (fun _ => Int32.ofInt 0)))] H := hP
  have hD : va_D A [(h0, .inr (3, [.null, .null, .ref q7, .ref q15, .ref q23, .null, .int (Int32.ofInt 0), .int (Int32.ofInt 0)])), (q7, .inl (cA 0, 40, .inl (fun _ => Int32.ofInt 0))), (q15, .inl (cA 0, 40, .inl (fun _ => Int32.ofInt 0))), (q23, .inl (cA 0, 40, .inl (fun _ => Int32.ofInt 0)))] := hD
  refine lv_aload_n hx hb dX3_init_28 rfl (lv_at hl 0 rfl) ?_
  refine lv_bipush (v := Int32.ofInt (40)) hx hb dX3_init_29 (by decide) ?_
  refine cw_newa (atype := .int) (ty := .int) (a0 := (40, .inl (fun _ => Int32.ofInt 0))) (t0 := 0) (c1 := cA 0) (N' := 40) hx hb (ht _ ac__int) rfl hK hP hD hS hA (fun _ => rfl) (by decide) (by decide) (Nat.le_of_ble_eq_true rfl) (Nat.le_of_ble_eq_true rfl) (Nat.le_of_ble_eq_true rfl) dX3_init_31 rfl (fun q31 H hP hD hS => ?_)
  have hP : va_P D vwCl [(h0, .inr (3, [.null, .null, .ref q7, .ref q15, .ref q23, .null, .int (Int32.ofInt 0), .int (Int32.ofInt 0)])), (q7, .inl (cA 0, 40, .inl (fun _ => Int32.ofInt 0))), (q15, .inl (cA 0, 40, .inl (fun _ => Int32.ofInt 0))), (q23, .inl (cA 0, 40, .inl (fun _ => Int32.ofInt 0))), (q31, .inl (cA 0, 40, .inl (fun _ => Int32.ofInt 0)))] H := hP
  have hD : va_D A [(h0, .inr (3, [.null, .null, .ref q7, .ref q15, .ref q23, .null, .int (Int32.ofInt 0), .int (Int32.ofInt 0)])), (q7, .inl (cA 0, 40, .inl (fun _ => Int32.ofInt 0))), (q15, .inl (cA 0, 40, .inl (fun _ => Int32.ofInt 0))), (q23, .inl (cA 0, 40, .inl (fun _ => Int32.ofInt 0))), (q31, .inl (cA 0, 40, .inl (fun _ => Int32.ofInt 0)))] := hD
  refine W.widen (k := 4) (n := 160) (by omega) (by omega) ?_
  refine va_putF (D := D) (ci := 3) (v := .ref q31) (ty := (.array .int)) (C := RX3) (T := TX3) (N := 8) (ref := RX3) hx hb ht inlX3 tyX3 tyX3_ok nmX3 hown hK hP hD hS 0 rfl rfl 5 (by decide) (ht _ lkX3_21) (fun _ h9 => h9) rfl hin rfl (by decide +kernel) rfl rfl (Nat.le_of_ble_eq_true rfl) dX3_init_33 (fun H locs hP hD hS => ?_)
  have hP : va_P D vwCl [(h0, .inr (3, [.null, .null, .ref q7, .ref q15, .ref q23, .ref q31, .int (Int32.ofInt 0), .int (Int32.ofInt 0)])), (q7, .inl (cA 0, 40, .inl (fun _ => Int32.ofInt 0))), (q15, .inl (cA 0, 40, .inl (fun _ => Int32.ofInt 0))), (q23, .inl (cA 0, 40, .inl (fun _ => Int32.ofInt 0))), (q31, .inl (cA 0, 40, .inl (fun _ => Int32.ofInt 0)))] H := hP
  have hD : va_D A [(h0, .inr (3, [.null, .null, .ref q7, .ref q15, .ref q23, .ref q31, .int (Int32.ofInt 0), .int (Int32.ofInt 0)])), (q7, .inl (cA 0, 40, .inl (fun _ => Int32.ofInt 0))), (q15, .inl (cA 0, 40, .inl (fun _ => Int32.ofInt 0))), (q23, .inl (cA 0, 40, .inl (fun _ => Int32.ofInt 0))), (q31, .inl (cA 0, 40, .inl (fun _ => Int32.ofInt 0)))] := hD
  refine lv_aload_n hx hb dX3_init_36 rfl (lv_at hl 0 rfl) ?_
  refine lv_aload_n hx hb dX3_init_37 rfl (lv_at hl 1 rfl) ?_
  refine va_putF (D := D) (ci := 3) (v := .ref a1) (ty := (.object "ThreeHundred$Runs")) (C := RX3) (T := TX3) (N := 8) (ref := RX3) hx hb ht inlX3 tyX3 tyX3_ok nmX3 hown hK hP hD hS 0 rfl rfl 0 (by decide) (ht _ lkX3_24) (fun _ h9 => h9) rfl hin rfl (by decide +kernel) rfl rfl (Nat.le_of_ble_eq_true rfl) dX3_init_38 (fun H locs hP hD hS => ?_)
  have hP : va_P D vwCl [(h0, .inr (3, [.ref a1, .null, .ref q7, .ref q15, .ref q23, .ref q31, .int (Int32.ofInt 0), .int (Int32.ofInt 0)])), (q7, .inl (cA 0, 40, .inl (fun _ => Int32.ofInt 0))), (q15, .inl (cA 0, 40, .inl (fun _ => Int32.ofInt 0))), (q23, .inl (cA 0, 40, .inl (fun _ => Int32.ofInt 0))), (q31, .inl (cA 0, 40, .inl (fun _ => Int32.ofInt 0)))] H := hP
  have hD : va_D A [(h0, .inr (3, [.ref a1, .null, .ref q7, .ref q15, .ref q23, .ref q31, .int (Int32.ofInt 0), .int (Int32.ofInt 0)])), (q7, .inl (cA 0, 40, .inl (fun _ => Int32.ofInt 0))), (q15, .inl (cA 0, 40, .inl (fun _ => Int32.ofInt 0))), (q23, .inl (cA 0, 40, .inl (fun _ => Int32.ofInt 0))), (q31, .inl (cA 0, 40, .inl (fun _ => Int32.ofInt 0)))] := hD
  refine lv_aload_n hx hb dX3_init_41 rfl (lv_at hl 0 rfl) ?_
  refine lv_aload_n hx hb dX3_init_42 rfl (lv_at hl 2 rfl) ?_
  refine va_putF (D := D) (ci := 3) (v := .ref a2) (ty := (.object "ThreeHundred$Shoes")) (C := RX3) (T := TX3) (N := 8) (ref := RX3) hx hb ht inlX3 tyX3 tyX3_ok nmX3 hown hK hP hD hS 0 rfl rfl 1 (by decide) (ht _ lkX3_28) (fun _ h9 => h9) rfl hin rfl (by decide +kernel) rfl rfl (Nat.le_of_ble_eq_true rfl) dX3_init_43 (fun H locs hP hD hS => ?_)
  have hP : va_P D vwCl [(h0, .inr (3, [.ref a1, .ref a2, .ref q7, .ref q15, .ref q23, .ref q31, .int (Int32.ofInt 0), .int (Int32.ofInt 0)])), (q7, .inl (cA 0, 40, .inl (fun _ => Int32.ofInt 0))), (q15, .inl (cA 0, 40, .inl (fun _ => Int32.ofInt 0))), (q23, .inl (cA 0, 40, .inl (fun _ => Int32.ofInt 0))), (q31, .inl (cA 0, 40, .inl (fun _ => Int32.ofInt 0)))] H := hP
  have hD : va_D A [(h0, .inr (3, [.ref a1, .ref a2, .ref q7, .ref q15, .ref q23, .ref q31, .int (Int32.ofInt 0), .int (Int32.ofInt 0)])), (q7, .inl (cA 0, 40, .inl (fun _ => Int32.ofInt 0))), (q15, .inl (cA 0, 40, .inl (fun _ => Int32.ofInt 0))), (q23, .inl (cA 0, 40, .inl (fun _ => Int32.ofInt 0))), (q31, .inl (cA 0, 40, .inl (fun _ => Int32.ofInt 0)))] := hD
  have hP9 := hP.sub (ws' := [(h0, .inr (3, [.ref a1, .ref a2, .ref q7, .ref q15, .ref q23, .ref q31, .int (Int32.ofInt 0), .int (Int32.ofInt 0)])), (q7, .inl (cA 0, 40, .inl (fun _ => Int32.ofInt 0))), (q15, .inl (cA 0, 40, .inl (fun _ => Int32.ofInt 0))), (q23, .inl (cA 0, 40, .inl (fun _ => Int32.ofInt 0))), (q31, .inl (cA 0, 40, .inl (fun _ => Int32.ofInt 0)))]) [0, 1, 2, 3, 4] rfl
  have hD9 := hD.sub (ws' := [(h0, .inr (3, [.ref a1, .ref a2, .ref q7, .ref q15, .ref q23, .ref q31, .int (Int32.ofInt 0), .int (Int32.ofInt 0)])), (q7, .inl (cA 0, 40, .inl (fun _ => Int32.ofInt 0))), (q15, .inl (cA 0, 40, .inl (fun _ => Int32.ofInt 0))), (q23, .inl (cA 0, 40, .inl (fun _ => Int32.ofInt 0))), (q31, .inl (cA 0, 40, .inl (fun _ => Int32.ofInt 0)))]) [0, 1, 2, 3, 4] (by decide) rfl
  exact W.vret hx hb hr (fun t ht2 hW => ⟨⟨(), rfl, trivial, fun i => [q7, q15, q23, q31].getD i 0, by rw [ht2]; exact hP9, hD9⟩, hS.F ht2⟩) hS.2.2 dX3_init_46
set_option maxHeartbeats 8000000 in
set_option maxRecDepth 100000 in
theorem k_X5_init (l : Launch) (D : va_G) (cA : Nat → ClassId) (h0 : Nat) (sz : Nat) : Met l yX5_init (.code yX5_init cX5_init 1 none :: wsL_law) ({ frames := 2, cells := 8, slots := 617, locals := 64 }) (va_Pc [.ref h0] (fun U => U.heap.size = sz ∧ va_P D vwCl [(h0, .inr (5, [.null, .null, .null, .null, .int (Int32.ofInt 0), .int (Int32.ofInt 0), .null, .int (Int32.ofInt 0), .int (Int32.ofInt 0), .int (Int32.ofInt 0)]))] U.heap ∧ va_K D vwCl (tysOf cA) U ∧ ct_O U ∧ va_D (fun _ => True) [(h0, .inr (5, [.null, .null, .null, .null, .int (Int32.ofInt 0), .int (Int32.ofInt 0), .null, .int (Int32.ofInt 0), .int (Int32.ofInt 0), .int (Int32.ofInt 0)]))])) (va_Qv (fun _ : Unit => True) (fun _ t => ∃ f : Nat → Nat, va_P D vwCl [(h0, .inr (5, [.ref (f 0), .ref (f 1), .ref (f 2), .ref (f 7), .int (Int32.ofInt 0), .int (Int32.ofInt 0), .ref (f 1), .int (Int32.ofInt 0), .int (Int32.ofInt 0), .int (Int32.ofInt 0)])), (f 0, .inl (cA 0, 9, .inl (fun _ => Int32.ofInt 0))), (f 1, .inl (cA 1, 120, .inl (fun _ => Int32.ofInt 0))), (f 2, .inl (cA 3, 4, .inr (.inr (.inr (.inr (fun j => some ([f 3, f 4, f 5, f 6].getD j 0))))))), (f 3, .inl (cA 1, 120, .inl (fun _ => Int32.ofInt 0))), (f 4, .inl (cA 1, 120, .inl (fun _ => Int32.ofInt 0))), (f 5, .inl (cA 1, 120, .inl (fun _ => Int32.ofInt 0))), (f 6, .inl (cA 1, 120, .inl (fun _ => Int32.ofInt 0))), (f 7, .inl (cA 0, 4, .inl (fun _ => Int32.ofInt 0)))] t.heap ∧ va_D (va_A [(h0, .inr (5, [.null, .null, .null, .null, .int (Int32.ofInt 0), .int (Int32.ofInt 0), .null, .int (Int32.ofInt 0), .int (Int32.ofInt 0), .int (Int32.ofInt 0)]))] sz) [(h0, .inr (5, [.ref (f 0), .ref (f 1), .ref (f 2), .ref (f 7), .int (Int32.ofInt 0), .int (Int32.ofInt 0), .ref (f 1), .int (Int32.ofInt 0), .int (Int32.ofInt 0), .int (Int32.ofInt 0)])), (f 0, .inl (cA 0, 9, .inl (fun _ => Int32.ofInt 0))), (f 1, .inl (cA 1, 120, .inl (fun _ => Int32.ofInt 0))), (f 2, .inl (cA 3, 4, .inr (.inr (.inr (.inr (fun j => some ([f 3, f 4, f 5, f 6].getD j 0))))))), (f 3, .inl (cA 1, 120, .inl (fun _ => Int32.ofInt 0))), (f 4, .inl (cA 1, 120, .inl (fun _ => Int32.ofInt 0))), (f 5, .inl (cA 1, 120, .inl (fun _ => Int32.ofInt 0))), (f 6, .inl (cA 1, 120, .inl (fun _ => Int32.ofInt 0))), (f 7, .inl (cA 0, 4, .inl (fun _ => Int32.ofInt 0)))]) (va_A [(h0, .inr (5, [.null, .null, .null, .null, .int (Int32.ofInt 0), .int (Int32.ofInt 0), .null, .int (Int32.ofInt 0), .int (Int32.ofInt 0), .int (Int32.ofInt 0)]))] sz)) 8 617 (va_A [(h0, .inr (5, [.null, .null, .null, .null, .int (Int32.ofInt 0), .int (Int32.ofInt 0), .null, .int (Int32.ofInt 0), .int (Int32.ofInt 0), .int (Int32.ofInt 0)]))] sz) := by
  refine Met.ofW (cc := cX5_init) (maxL := 1) (ret := none) (by decide +kernel) rfl ?_
  intro p e s m args below meth c s₁ B hml hv
  obtain ⟨rfl, hsz, hP, hK, hO, hD0⟩ := hv
  have hx := B.exec
  have hb := B.bytes
  have hr := B.returns
  have hts := atoms_spec (ws := .code yX5_init cX5_init 1 none :: wsL_law) B.pre
  have ht : ∀ w ∈ wsL_law, w.before _ s = true := fun w hw => hts w (List.mem_cons_of_mem _ hw)
  have hown : s.vm.findClass RX5 = some m.cls := findClass_of_methodNamed B.named
  have hlocks := B.notSynchronized
  have hin : meth.name = "<init>" := (name_of_methodNamed B.named B.method).1
  subst hsz
  have hD := hD0.self (sz := s.heap.size)
  generalize hAe : va_A [(h0, .inr (5, [.null, .null, .null, .null, .int (Int32.ofInt 0), .int (Int32.ofInt 0), .null, .int (Int32.ofInt 0), .int (Int32.ofInt 0), .int (Int32.ofInt 0)]))] s.heap.size = A at hD ⊢
  have hA : ∀ q : Nat, s.heap.size ≤ q → A q := fun q h => by rw [← hAe]; exact Or.inr h
  have hS : va_S A s.heap s.heap [] := va_S.rf
  have hP : va_P D vwCl [(h0, .inr (5, [.null, .null, .null, .null, .int (Int32.ofInt 0), .int (Int32.ofInt 0), .null, .int (Int32.ofInt 0), .int (Int32.ofInt 0), .int (Int32.ofInt 0)]))] s.heap := hP
  have hl := lv_entry ([.ref h0]) (n := 1) (Nat.le_of_ble_eq_true rfl)
  rw [lg_entry_eq]
  generalize (lg_sl ([.ref h0]) ++ List.replicate (1 - (lg_sl ([.ref h0])).length) Slot.unset).toArray = ls at hl ⊢
  have hl : lv_has ls 1 [(0, .ref h0)] := hl
  refine lv_aload_n hx hb dX5_init_0 rfl (lv_at hl 0 rfl) ?_
  refine W.objInit hx hb hown (ht _ mlX5_3) (ht _ im_objectInit) (ht _ cd_objectInit) rfl (by rw [hml]; exact hl.1) rfl dX5_init_1 (Nat.le_of_ble_eq_true rfl) (Nat.le_of_ble_eq_true rfl) ?_
  refine W.eq (g2 := F0 m 4 ls []) rfl ?_
  refine lv_aload_n hx hb dX5_init_4 rfl (lv_at hl 0 rfl) ?_
  refine lv_bipush (v := Int32.ofInt (9)) hx hb dX5_init_5 (by decide) ?_
  refine cw_newa (atype := .int) (ty := .int) (a0 := (9, .inl (fun _ => Int32.ofInt 0))) (t0 := 0) (c1 := cA 0) (N' := 9) hx hb (ht _ ac__int) rfl hK hP hD hS hA (fun _ => rfl) (by decide) (by decide) (Nat.le_of_ble_eq_true rfl) (Nat.le_of_ble_eq_true rfl) (Nat.le_of_ble_eq_true rfl) dX5_init_7 rfl (fun q7 H hP hD hS => ?_)
  have hP : va_P D vwCl [(h0, .inr (5, [.null, .null, .null, .null, .int (Int32.ofInt 0), .int (Int32.ofInt 0), .null, .int (Int32.ofInt 0), .int (Int32.ofInt 0), .int (Int32.ofInt 0)])), (q7, .inl (cA 0, 9, .inl (fun _ => Int32.ofInt 0)))] H := hP
  have hD : va_D A [(h0, .inr (5, [.null, .null, .null, .null, .int (Int32.ofInt 0), .int (Int32.ofInt 0), .null, .int (Int32.ofInt 0), .int (Int32.ofInt 0), .int (Int32.ofInt 0)])), (q7, .inl (cA 0, 9, .inl (fun _ => Int32.ofInt 0)))] := hD
  refine W.widen (k := 1) (n := 9) (by omega) (by omega) ?_
  refine va_putF (D := D) (ci := 5) (v := .ref q7) (ty := (.array .int)) (C := RX5) (T := TX5) (N := 10) (ref := RX5) hx hb ht inlX5 tyX5 tyX5_ok nmX5 hown hK hP hD hS 0 rfl rfl 0 (by decide) (ht _ lkX5_9) (fun _ h9 => h9) rfl hin rfl (by decide +kernel) rfl rfl (Nat.le_of_ble_eq_true rfl) dX5_init_9 (fun H locs hP hD hS => ?_)
  have hP : va_P D vwCl [(h0, .inr (5, [.ref q7, .null, .null, .null, .int (Int32.ofInt 0), .int (Int32.ofInt 0), .null, .int (Int32.ofInt 0), .int (Int32.ofInt 0), .int (Int32.ofInt 0)])), (q7, .inl (cA 0, 9, .inl (fun _ => Int32.ofInt 0)))] H := hP
  have hD : va_D A [(h0, .inr (5, [.ref q7, .null, .null, .null, .int (Int32.ofInt 0), .int (Int32.ofInt 0), .null, .int (Int32.ofInt 0), .int (Int32.ofInt 0), .int (Int32.ofInt 0)])), (q7, .inl (cA 0, 9, .inl (fun _ => Int32.ofInt 0)))] := hD
  refine lv_aload_n hx hb dX5_init_12 rfl (lv_at hl 0 rfl) ?_
  refine lv_bipush (v := Int32.ofInt (120)) hx hb dX5_init_13 (by decide) ?_
  refine cw_newa (atype := .byte) (ty := .byte) (a0 := (120, .inl (fun _ => Int32.ofInt 0))) (t0 := 1) (c1 := cA 1) (N' := 120) hx hb (ht _ ac__byte) rfl hK hP hD hS hA (fun _ => rfl) (by decide) (by decide) (Nat.le_of_ble_eq_true rfl) (Nat.le_of_ble_eq_true rfl) (Nat.le_of_ble_eq_true rfl) dX5_init_15 rfl (fun q15 H hP hD hS => ?_)
  have hP : va_P D vwCl [(h0, .inr (5, [.ref q7, .null, .null, .null, .int (Int32.ofInt 0), .int (Int32.ofInt 0), .null, .int (Int32.ofInt 0), .int (Int32.ofInt 0), .int (Int32.ofInt 0)])), (q7, .inl (cA 0, 9, .inl (fun _ => Int32.ofInt 0))), (q15, .inl (cA 1, 120, .inl (fun _ => Int32.ofInt 0)))] H := hP
  have hD : va_D A [(h0, .inr (5, [.ref q7, .null, .null, .null, .int (Int32.ofInt 0), .int (Int32.ofInt 0), .null, .int (Int32.ofInt 0), .int (Int32.ofInt 0), .int (Int32.ofInt 0)])), (q7, .inl (cA 0, 9, .inl (fun _ => Int32.ofInt 0))), (q15, .inl (cA 1, 120, .inl (fun _ => Int32.ofInt 0)))] := hD
  refine W.widen (k := 2) (n := 129) (by omega) (by omega) ?_
  refine va_putF (D := D) (ci := 5) (v := .ref q15) (ty := (.array .byte)) (C := RX5) (T := TX5) (N := 10) (ref := RX5) hx hb ht inlX5 tyX5 tyX5_ok nmX5 hown hK hP hD hS 0 rfl rfl 1 (by decide) (ht _ lkX5_15) (fun _ h9 => h9) rfl hin rfl (by decide +kernel) rfl rfl (Nat.le_of_ble_eq_true rfl) dX5_init_17 (fun H locs hP hD hS => ?_)
  have hP : va_P D vwCl [(h0, .inr (5, [.ref q7, .ref q15, .null, .null, .int (Int32.ofInt 0), .int (Int32.ofInt 0), .null, .int (Int32.ofInt 0), .int (Int32.ofInt 0), .int (Int32.ofInt 0)])), (q7, .inl (cA 0, 9, .inl (fun _ => Int32.ofInt 0))), (q15, .inl (cA 1, 120, .inl (fun _ => Int32.ofInt 0)))] H := hP
  have hD : va_D A [(h0, .inr (5, [.ref q7, .ref q15, .null, .null, .int (Int32.ofInt 0), .int (Int32.ofInt 0), .null, .int (Int32.ofInt 0), .int (Int32.ofInt 0), .int (Int32.ofInt 0)])), (q7, .inl (cA 0, 9, .inl (fun _ => Int32.ofInt 0))), (q15, .inl (cA 1, 120, .inl (fun _ => Int32.ofInt 0)))] := hD
  refine lv_aload_n hx hb dX5_init_20 rfl (lv_at hl 0 rfl) ?_
  refine lv_iconst (v := Int32.ofInt (4)) hx hb dX5_init_21 rfl ?_
  refine lv_bipush (v := Int32.ofInt (120)) hx hb dX5_init_22 (by decide) ?_
  refine cw_mnew (ty := .byte) (a0 := (120, .inl (fun _ => Int32.ofInt 0))) (N := 4) (M := 120) (t1 := 1) (c1 := cA 1) (t2 := 3) (c2 := cA 3) hx hb hown (ht _ clX5_19) hO.1 (ht _ ac__byte) hK hP hD hS hA (fun _ => rfl) (by decide) (by decide) (by decide) (by decide) (Nat.le_of_ble_eq_true rfl) (Nat.le_of_ble_eq_true rfl) (Nat.le_of_ble_eq_true rfl) rfl rfl (Nat.le_of_ble_eq_true rfl) (Nat.le_of_ble_eq_true rfl) dX5_init_24 rfl (hK.2 1 _ rfl).2 rfl (fun q24 H hP hD hS => ?_)
  have hP : va_P D vwCl [(h0, .inr (5, [.ref q7, .ref q15, .null, .null, .int (Int32.ofInt 0), .int (Int32.ofInt 0), .null, .int (Int32.ofInt 0), .int (Int32.ofInt 0), .int (Int32.ofInt 0)])), (q7, .inl (cA 0, 9, .inl (fun _ => Int32.ofInt 0))), (q15, .inl (cA 1, 120, .inl (fun _ => Int32.ofInt 0))), (q24, .inl (cA 3, 4, .inr (.inr (.inr (.inr (fun j => some (q24 + 1 + j))))))), (q24 + 1 + 0, .inl (cA 1, 120, .inl (fun _ => Int32.ofInt 0))), (q24 + 1 + 1, .inl (cA 1, 120, .inl (fun _ => Int32.ofInt 0))), (q24 + 1 + 2, .inl (cA 1, 120, .inl (fun _ => Int32.ofInt 0))), (q24 + 1 + 3, .inl (cA 1, 120, .inl (fun _ => Int32.ofInt 0)))] H := hP
  have hD : va_D A [(h0, .inr (5, [.ref q7, .ref q15, .null, .null, .int (Int32.ofInt 0), .int (Int32.ofInt 0), .null, .int (Int32.ofInt 0), .int (Int32.ofInt 0), .int (Int32.ofInt 0)])), (q7, .inl (cA 0, 9, .inl (fun _ => Int32.ofInt 0))), (q15, .inl (cA 1, 120, .inl (fun _ => Int32.ofInt 0))), (q24, .inl (cA 3, 4, .inr (.inr (.inr (.inr (fun j => some (q24 + 1 + j))))))), (q24 + 1 + 0, .inl (cA 1, 120, .inl (fun _ => Int32.ofInt 0))), (q24 + 1 + 1, .inl (cA 1, 120, .inl (fun _ => Int32.ofInt 0))), (q24 + 1 + 2, .inl (cA 1, 120, .inl (fun _ => Int32.ofInt 0))), (q24 + 1 + 3, .inl (cA 1, 120, .inl (fun _ => Int32.ofInt 0)))] := hD
  have hP := ct_refs (g := fun j => some ([q24 + 1 + 0, q24 + 1 + 1, q24 + 1 + 2, q24 + 1 + 3].getD j 0)) hP 3 rfl (fun j hj => by rcases (show j = 0 ∨ j = 1 ∨ j = 2 ∨ j = 3 by omega) with rfl | rfl | rfl | rfl <;> rfl)
  have hD := hD.set (p := 3) (e := .inl (cA 3, 4, .inr (.inr (.inr (.inr (fun j => some ([q24 + 1 + 0, q24 + 1 + 1, q24 + 1 + 2, q24 + 1 + 3].getD j 0))))))) rfl
  have hP : va_P D vwCl [(h0, .inr (5, [.ref q7, .ref q15, .null, .null, .int (Int32.ofInt 0), .int (Int32.ofInt 0), .null, .int (Int32.ofInt 0), .int (Int32.ofInt 0), .int (Int32.ofInt 0)])), (q7, .inl (cA 0, 9, .inl (fun _ => Int32.ofInt 0))), (q15, .inl (cA 1, 120, .inl (fun _ => Int32.ofInt 0))), (q24, .inl (cA 3, 4, .inr (.inr (.inr (.inr (fun j => some ([q24 + 1 + 0, q24 + 1 + 1, q24 + 1 + 2, q24 + 1 + 3].getD j 0))))))), (q24 + 1 + 0, .inl (cA 1, 120, .inl (fun _ => Int32.ofInt 0))), (q24 + 1 + 1, .inl (cA 1, 120, .inl (fun _ => Int32.ofInt 0))), (q24 + 1 + 2, .inl (cA 1, 120, .inl (fun _ => Int32.ofInt 0))), (q24 + 1 + 3, .inl (cA 1, 120, .inl (fun _ => Int32.ofInt 0)))] H := hP
  have hD : va_D A [(h0, .inr (5, [.ref q7, .ref q15, .null, .null, .int (Int32.ofInt 0), .int (Int32.ofInt 0), .null, .int (Int32.ofInt 0), .int (Int32.ofInt 0), .int (Int32.ofInt 0)])), (q7, .inl (cA 0, 9, .inl (fun _ => Int32.ofInt 0))), (q15, .inl (cA 1, 120, .inl (fun _ => Int32.ofInt 0))), (q24, .inl (cA 3, 4, .inr (.inr (.inr (.inr (fun j => some ([q24 + 1 + 0, q24 + 1 + 1, q24 + 1 + 2, q24 + 1 + 3].getD j 0))))))), (q24 + 1 + 0, .inl (cA 1, 120, .inl (fun _ => Int32.ofInt 0))), (q24 + 1 + 1, .inl (cA 1, 120, .inl (fun _ => Int32.ofInt 0))), (q24 + 1 + 2, .inl (cA 1, 120, .inl (fun _ => Int32.ofInt 0))), (q24 + 1 + 3, .inl (cA 1, 120, .inl (fun _ => Int32.ofInt 0)))] := hD
  refine W.widen (k := 7) (n := 613) (by omega) (by omega) ?_
  refine va_putF (D := D) (ci := 5) (v := .ref q24) (ty := (.array (.array .byte))) (C := RX5) (T := TX5) (N := 10) (ref := RX5) hx hb ht inlX5 tyX5 tyX5_ok nmX5 hown hK hP hD hS 0 rfl rfl 2 (by decide) (ht _ lkX5_21) (fun _ h9 => h9) rfl hin rfl (by decide +kernel) rfl rfl (Nat.le_of_ble_eq_true rfl) dX5_init_28 (fun H locs hP hD hS => ?_)
  have hP : va_P D vwCl [(h0, .inr (5, [.ref q7, .ref q15, .ref q24, .null, .int (Int32.ofInt 0), .int (Int32.ofInt 0), .null, .int (Int32.ofInt 0), .int (Int32.ofInt 0), .int (Int32.ofInt 0)])), (q7, .inl (cA 0, 9, .inl (fun _ => Int32.ofInt 0))), (q15, .inl (cA 1, 120, .inl (fun _ => Int32.ofInt 0))), (q24, .inl (cA 3, 4, .inr (.inr (.inr (.inr (fun j => some ([q24 + 1 + 0, q24 + 1 + 1, q24 + 1 + 2, q24 + 1 + 3].getD j 0))))))), (q24 + 1 + 0, .inl (cA 1, 120, .inl (fun _ => Int32.ofInt 0))), (q24 + 1 + 1, .inl (cA 1, 120, .inl (fun _ => Int32.ofInt 0))), (q24 + 1 + 2, .inl (cA 1, 120, .inl (fun _ => Int32.ofInt 0))), (q24 + 1 + 3, .inl (cA 1, 120, .inl (fun _ => Int32.ofInt 0)))] H := hP
  have hD : va_D A [(h0, .inr (5, [.ref q7, .ref q15, .ref q24, .null, .int (Int32.ofInt 0), .int (Int32.ofInt 0), .null, .int (Int32.ofInt 0), .int (Int32.ofInt 0), .int (Int32.ofInt 0)])), (q7, .inl (cA 0, 9, .inl (fun _ => Int32.ofInt 0))), (q15, .inl (cA 1, 120, .inl (fun _ => Int32.ofInt 0))), (q24, .inl (cA 3, 4, .inr (.inr (.inr (.inr (fun j => some ([q24 + 1 + 0, q24 + 1 + 1, q24 + 1 + 2, q24 + 1 + 3].getD j 0))))))), (q24 + 1 + 0, .inl (cA 1, 120, .inl (fun _ => Int32.ofInt 0))), (q24 + 1 + 1, .inl (cA 1, 120, .inl (fun _ => Int32.ofInt 0))), (q24 + 1 + 2, .inl (cA 1, 120, .inl (fun _ => Int32.ofInt 0))), (q24 + 1 + 3, .inl (cA 1, 120, .inl (fun _ => Int32.ofInt 0)))] := hD
  refine lv_aload_n hx hb dX5_init_31 rfl (lv_at hl 0 rfl) ?_
  refine lv_iconst (v := Int32.ofInt (4)) hx hb dX5_init_32 rfl ?_
  refine cw_newa (atype := .int) (ty := .int) (a0 := (4, .inl (fun _ => Int32.ofInt 0))) (t0 := 0) (c1 := cA 0) (N' := 4) hx hb (ht _ ac__int) rfl hK hP hD hS hA (fun _ => rfl) (by decide) (by decide) (Nat.le_of_ble_eq_true rfl) (Nat.le_of_ble_eq_true rfl) (Nat.le_of_ble_eq_true rfl) dX5_init_33 rfl (fun q33 H hP hD hS => ?_)
  have hP : va_P D vwCl [(h0, .inr (5, [.ref q7, .ref q15, .ref q24, .null, .int (Int32.ofInt 0), .int (Int32.ofInt 0), .null, .int (Int32.ofInt 0), .int (Int32.ofInt 0), .int (Int32.ofInt 0)])), (q7, .inl (cA 0, 9, .inl (fun _ => Int32.ofInt 0))), (q15, .inl (cA 1, 120, .inl (fun _ => Int32.ofInt 0))), (q24, .inl (cA 3, 4, .inr (.inr (.inr (.inr (fun j => some ([q24 + 1 + 0, q24 + 1 + 1, q24 + 1 + 2, q24 + 1 + 3].getD j 0))))))), (q24 + 1 + 0, .inl (cA 1, 120, .inl (fun _ => Int32.ofInt 0))), (q24 + 1 + 1, .inl (cA 1, 120, .inl (fun _ => Int32.ofInt 0))), (q24 + 1 + 2, .inl (cA 1, 120, .inl (fun _ => Int32.ofInt 0))), (q24 + 1 + 3, .inl (cA 1, 120, .inl (fun _ => Int32.ofInt 0))), (q33, .inl (cA 0, 4, .inl (fun _ => Int32.ofInt 0)))] H := hP
  have hD : va_D A [(h0, .inr (5, [.ref q7, .ref q15, .ref q24, .null, .int (Int32.ofInt 0), .int (Int32.ofInt 0), .null, .int (Int32.ofInt 0), .int (Int32.ofInt 0), .int (Int32.ofInt 0)])), (q7, .inl (cA 0, 9, .inl (fun _ => Int32.ofInt 0))), (q15, .inl (cA 1, 120, .inl (fun _ => Int32.ofInt 0))), (q24, .inl (cA 3, 4, .inr (.inr (.inr (.inr (fun j => some ([q24 + 1 + 0, q24 + 1 + 1, q24 + 1 + 2, q24 + 1 + 3].getD j 0))))))), (q24 + 1 + 0, .inl (cA 1, 120, .inl (fun _ => Int32.ofInt 0))), (q24 + 1 + 1, .inl (cA 1, 120, .inl (fun _ => Int32.ofInt 0))), (q24 + 1 + 2, .inl (cA 1, 120, .inl (fun _ => Int32.ofInt 0))), (q24 + 1 + 3, .inl (cA 1, 120, .inl (fun _ => Int32.ofInt 0))), (q33, .inl (cA 0, 4, .inl (fun _ => Int32.ofInt 0)))] := hD
  refine W.widen (k := 8) (n := 617) (by omega) (by omega) ?_
  refine va_putF (D := D) (ci := 5) (v := .ref q33) (ty := (.array .int)) (C := RX5) (T := TX5) (N := 10) (ref := RX5) hx hb ht inlX5 tyX5 tyX5_ok nmX5 hown hK hP hD hS 0 rfl rfl 3 (by decide) (ht _ lkX5_24) (fun _ h9 => h9) rfl hin rfl (by decide +kernel) rfl rfl (Nat.le_of_ble_eq_true rfl) dX5_init_35 (fun H locs hP hD hS => ?_)
  have hP : va_P D vwCl [(h0, .inr (5, [.ref q7, .ref q15, .ref q24, .ref q33, .int (Int32.ofInt 0), .int (Int32.ofInt 0), .null, .int (Int32.ofInt 0), .int (Int32.ofInt 0), .int (Int32.ofInt 0)])), (q7, .inl (cA 0, 9, .inl (fun _ => Int32.ofInt 0))), (q15, .inl (cA 1, 120, .inl (fun _ => Int32.ofInt 0))), (q24, .inl (cA 3, 4, .inr (.inr (.inr (.inr (fun j => some ([q24 + 1 + 0, q24 + 1 + 1, q24 + 1 + 2, q24 + 1 + 3].getD j 0))))))), (q24 + 1 + 0, .inl (cA 1, 120, .inl (fun _ => Int32.ofInt 0))), (q24 + 1 + 1, .inl (cA 1, 120, .inl (fun _ => Int32.ofInt 0))), (q24 + 1 + 2, .inl (cA 1, 120, .inl (fun _ => Int32.ofInt 0))), (q24 + 1 + 3, .inl (cA 1, 120, .inl (fun _ => Int32.ofInt 0))), (q33, .inl (cA 0, 4, .inl (fun _ => Int32.ofInt 0)))] H := hP
  have hD : va_D A [(h0, .inr (5, [.ref q7, .ref q15, .ref q24, .ref q33, .int (Int32.ofInt 0), .int (Int32.ofInt 0), .null, .int (Int32.ofInt 0), .int (Int32.ofInt 0), .int (Int32.ofInt 0)])), (q7, .inl (cA 0, 9, .inl (fun _ => Int32.ofInt 0))), (q15, .inl (cA 1, 120, .inl (fun _ => Int32.ofInt 0))), (q24, .inl (cA 3, 4, .inr (.inr (.inr (.inr (fun j => some ([q24 + 1 + 0, q24 + 1 + 1, q24 + 1 + 2, q24 + 1 + 3].getD j 0))))))), (q24 + 1 + 0, .inl (cA 1, 120, .inl (fun _ => Int32.ofInt 0))), (q24 + 1 + 1, .inl (cA 1, 120, .inl (fun _ => Int32.ofInt 0))), (q24 + 1 + 2, .inl (cA 1, 120, .inl (fun _ => Int32.ofInt 0))), (q24 + 1 + 3, .inl (cA 1, 120, .inl (fun _ => Int32.ofInt 0))), (q33, .inl (cA 0, 4, .inl (fun _ => Int32.ofInt 0)))] := hD
  refine lv_aload_n hx hb dX5_init_38 rfl (lv_at hl 0 rfl) ?_
  refine lv_aload_n hx hb dX5_init_39 rfl (lv_at hl 0 rfl) ?_
  refine va_get (D := D) (ci := 5) (v := .ref q15) (C := RX5) (T := TX5) (N := 10) (ref := RX5) hx hb ht inlX5 hown hK hP 0 rfl rfl 1 (by decide) (ht _ lkX5_15) (fun _ h9 => h9) rfl dX5_init_40 ?_
  refine va_put (D := D) (ci := 5) (v := .ref q15) (ty := (.array .byte)) (C := RX5) (T := TX5) (N := 10) (ref := RX5) hx hb ht inlX5 tyX5 tyX5_ok nmX5 hown hK hP hD hS 0 rfl rfl 6 (by decide) (ht _ lkX5_27) (fun _ h9 => h9) rfl (by decide +kernel) rfl rfl (Nat.le_of_ble_eq_true rfl) dX5_init_43 (fun H locs hP hD hS => ?_)
  have hP : va_P D vwCl [(h0, .inr (5, [.ref q7, .ref q15, .ref q24, .ref q33, .int (Int32.ofInt 0), .int (Int32.ofInt 0), .ref q15, .int (Int32.ofInt 0), .int (Int32.ofInt 0), .int (Int32.ofInt 0)])), (q7, .inl (cA 0, 9, .inl (fun _ => Int32.ofInt 0))), (q15, .inl (cA 1, 120, .inl (fun _ => Int32.ofInt 0))), (q24, .inl (cA 3, 4, .inr (.inr (.inr (.inr (fun j => some ([q24 + 1 + 0, q24 + 1 + 1, q24 + 1 + 2, q24 + 1 + 3].getD j 0))))))), (q24 + 1 + 0, .inl (cA 1, 120, .inl (fun _ => Int32.ofInt 0))), (q24 + 1 + 1, .inl (cA 1, 120, .inl (fun _ => Int32.ofInt 0))), (q24 + 1 + 2, .inl (cA 1, 120, .inl (fun _ => Int32.ofInt 0))), (q24 + 1 + 3, .inl (cA 1, 120, .inl (fun _ => Int32.ofInt 0))), (q33, .inl (cA 0, 4, .inl (fun _ => Int32.ofInt 0)))] H := hP
  have hD : va_D A [(h0, .inr (5, [.ref q7, .ref q15, .ref q24, .ref q33, .int (Int32.ofInt 0), .int (Int32.ofInt 0), .ref q15, .int (Int32.ofInt 0), .int (Int32.ofInt 0), .int (Int32.ofInt 0)])), (q7, .inl (cA 0, 9, .inl (fun _ => Int32.ofInt 0))), (q15, .inl (cA 1, 120, .inl (fun _ => Int32.ofInt 0))), (q24, .inl (cA 3, 4, .inr (.inr (.inr (.inr (fun j => some ([q24 + 1 + 0, q24 + 1 + 1, q24 + 1 + 2, q24 + 1 + 3].getD j 0))))))), (q24 + 1 + 0, .inl (cA 1, 120, .inl (fun _ => Int32.ofInt 0))), (q24 + 1 + 1, .inl (cA 1, 120, .inl (fun _ => Int32.ofInt 0))), (q24 + 1 + 2, .inl (cA 1, 120, .inl (fun _ => Int32.ofInt 0))), (q24 + 1 + 3, .inl (cA 1, 120, .inl (fun _ => Int32.ofInt 0))), (q33, .inl (cA 0, 4, .inl (fun _ => Int32.ofInt 0)))] := hD
  have hP9 := hP.sub (ws' := [(h0, .inr (5, [.ref q7, .ref q15, .ref q24, .ref q33, .int (Int32.ofInt 0), .int (Int32.ofInt 0), .ref q15, .int (Int32.ofInt 0), .int (Int32.ofInt 0), .int (Int32.ofInt 0)])), (q7, .inl (cA 0, 9, .inl (fun _ => Int32.ofInt 0))), (q15, .inl (cA 1, 120, .inl (fun _ => Int32.ofInt 0))), (q24, .inl (cA 3, 4, .inr (.inr (.inr (.inr (fun j => some ([q24 + 1 + 0, q24 + 1 + 1, q24 + 1 + 2, q24 + 1 + 3].getD j 0))))))), (q24 + 1 + 0, .inl (cA 1, 120, .inl (fun _ => Int32.ofInt 0))), (q24 + 1 + 1, .inl (cA 1, 120, .inl (fun _ => Int32.ofInt 0))), (q24 + 1 + 2, .inl (cA 1, 120, .inl (fun _ => Int32.ofInt 0))), (q24 + 1 + 3, .inl (cA 1, 120, .inl (fun _ => Int32.ofInt 0))), (q33, .inl (cA 0, 4, .inl (fun _ => Int32.ofInt 0)))]) [0, 1, 2, 3, 4, 5, 6, 7, 8] rfl
  have hD9 := hD.sub (ws' := [(h0, .inr (5, [.ref q7, .ref q15, .ref q24, .ref q33, .int (Int32.ofInt 0), .int (Int32.ofInt 0), .ref q15, .int (Int32.ofInt 0), .int (Int32.ofInt 0), .int (Int32.ofInt 0)])), (q7, .inl (cA 0, 9, .inl (fun _ => Int32.ofInt 0))), (q15, .inl (cA 1, 120, .inl (fun _ => Int32.ofInt 0))), (q24, .inl (cA 3, 4, .inr (.inr (.inr (.inr (fun j => some ([q24 + 1 + 0, q24 + 1 + 1, q24 + 1 + 2, q24 + 1 + 3].getD j 0))))))), (q24 + 1 + 0, .inl (cA 1, 120, .inl (fun _ => Int32.ofInt 0))), (q24 + 1 + 1, .inl (cA 1, 120, .inl (fun _ => Int32.ofInt 0))), (q24 + 1 + 2, .inl (cA 1, 120, .inl (fun _ => Int32.ofInt 0))), (q24 + 1 + 3, .inl (cA 1, 120, .inl (fun _ => Int32.ofInt 0))), (q33, .inl (cA 0, 4, .inl (fun _ => Int32.ofInt 0)))]) [0, 1, 2, 3, 4, 5, 6, 7, 8] (by decide) rfl
  exact W.vret hx hb hr (fun t ht2 hW => ⟨⟨(), rfl, trivial, fun i => [q7, q15, q24, q24 + 1 + 0, q24 + 1 + 1, q24 + 1 + 2, q24 + 1 + 3, q33].getD i 0, by rw [ht2]; exact hP9, hD9⟩, hS.F ht2⟩) hS.2.2 dX5_init_46
