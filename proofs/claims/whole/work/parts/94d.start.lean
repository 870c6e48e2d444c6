theorem rm_a : 1000 ≤ room_1.frames := Nat.le_of_ble_eq_true rfl
theorem rm_b : 64 * 1000 ≤ room_1.locals := Nat.le_of_ble_eq_true rfl
theorem rm_c : 600000 ≤ room_1.cells := Nat.le_of_ble_eq_true rfl
theorem rm_d : 7302250 ≤ room_1.slots := Nat.le_of_ble_eq_true rfl
theorem ws_fin {p : Program} {e : Env} {s : State} {m : MethodId} {below : List Frame} {meth : Method} {c : Code} {l : Launch} {b L : Nat} {xs : Nat → Int32} (hL : L ≤ 384) (C0 : lw_At p s m meth c b L xs) (hw : ∀ w ∈ wsL_law, w.before #[Value.ref b] s = true) {D : va_G} {cA : Nat → ClassId} (hK : va_K D vwCl (tysOf cA) s) {t0 t1 t2 t3 : Nat} (hST : ∀ K : KT, K.2.2.1 1000 = t0 → K.2.2.1 1001 = t1 → K.2.2.1 1002 = t2 → K.2.2.1 1003 = t3 → ST K (fun q : Nat => s.heap.size ≤ q) s) {q0 q1 : Nat} {f g : Nat → Nat} {H : Heap} {locs : List Loc} {ls : Array Slot} (hP : va_P D vwCl (WX11 cA q0 f ++ WX12 cA q1 g) H) (hD : va_D (fun q : Nat => s.heap.size ≤ q) (WX11 cA q0 f ++ WX12 cA q1 g)) (hS : va_S (fun q : Nat => s.heap.size ≤ q) s.heap H locs) (hl : lv_has ls 4 [(3, .int 0), (2, .ref q1), (1, .ref q0), (0, .ref b)]) : W p l e room_1 s m #[Value.ref b] below meth c H locs 600000 7302250 (lw_Z below #[Value.ref b] s) (F0 m 18 ls []) := by
  obtain ⟨hx, hb, hr, hml, hown, hts, hX, hbl, hlocks, hgv⟩ := id C0
  have hown : s.vm.findClass RL = some m.cls := hown
  have hl2 : lv_has ls 4 [(0, .ref b), (1, .ref q0), (2, .ref q1), (3, .int 0)] := lv_sub hl [3, 2, 1, 0] rfl
  obtain ⟨hDK, hAA⟩ := ws_D (l := l) (D := D) (t := TT t0 t1 t2 t3 b) hD
  have hPw := ws_P (l := l) (t := TT t0 t1 t2 t3 b) hP
  have hq := lw_loop (K := (l, D, AD q0 q1 f g (TT t0 t1 t2 t3 b), cA)) (xs := xs) hL L 0 hz (by omega) (by omega) RLL_hz
  have hC : CX (l, D, AD q0 q1 f g (TT t0 t1 t2 t3 b), cA) (XL (l, D, AD q0 q1 f g (TT t0 t1 t2 t3 b), cA) L xs) RL code 4 ret 1000 p room_1 s m #[Value.ref b] meth c := by
    refine ⟨hx, hb, hr, hml, hown, hw, hlocks, rm_a, rm_b, rm_c, rm_d, hDK, hAA, hK, hST _ rfl rfl rfl rfl, rfl, rfl, hX, hbl⟩
  exact hq p e room_1 s m #[Value.ref b] below meth c H locs ls hC ⟨hPw, hS, HOK_hz⟩ hl2
