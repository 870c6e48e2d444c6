/-! LAYER 1, second half: calls, ends, rows of rows, statics, copies; then the words of fields and methods, by program -/
def stw : List AV → Nat
  | [] => 0
  | Sum.inr (Sum.inl _) :: r => 2 + stw r
  | _ :: r => 1 + stw r
theorem stw_cv {ad : Nat → Nat} : ∀ st : List AV, ((st.map (cv ad)).map fun v => v.category).sum = stw st
  | [] => rfl
  | Sum.inl _ :: r => by simp [stw, cv, Value.category, ← stw_cv (ad := ad) r]
  | Sum.inr (Sum.inl _) :: r => by simp [stw, cv, Value.category, ← stw_cv (ad := ad) r]
  | Sum.inr (Sum.inr (some _)) :: r => by simp [stw, cv, Value.category, ← stw_cv (ad := ad) r]
  | Sum.inr (Sum.inr none) :: r => by simp [stw, cv, Value.category, ← stw_cv (ad := ad) r]
def MOK (y : MethodName) (cc : ByteArray) (nL : Nat) (ret : Option FieldType) (n : Nat) : Prop := Cond.code y cc nL ret ∈ wsL_law ∧ Cond.initialized y.cls ∈ wsL_law ∧ (y.cls ≠ "java/lang/invoke/MethodHandle" ∧ y.cls ≠ "java/lang/invoke/VarHandle") ∧ (parseMethodDescriptor y.desc).map (fun d => d.parameters.length) = some n ∧ nL ≤ 45
def MOKv (y : MethodName) (cc : ByteArray) (nL : Nat) (ret : Option FieldType) (n : Nat) : Prop := MOK y cc nL ret n ∧ Cond.instanceMethod y ∈ wsL_law ∧ Cond.selects y.cls y y ∈ wsL_law
def MOKs (y : MethodName) (cc : ByteArray) (nL : Nat) (ret : Option FieldType) (n : Nat) : Prop := MOK y cc nL ret n ∧ Cond.static y ∈ wsL_law
section AWC
variable {K : KT} {X : XT} {own : String} {cc : ByteArray} {nL : Nat} {ret : Option FieldType} {dep pc pc' : Nat} {ls : List (Option AV)} {st : List AV} {h : Hp}
theorem callB_x {R : Room} {s : State} {args : Array Value} {y : MethodName} {cc' : ByteArray} {nL' : Nat} {ret' : Option FieldType} {dep' n idx : Nat} (hts : ∀ w ∈ wsL_law, w.before args s = true) (hl : Cond.methodLink own idx y ∈ wsL_law) (hm : MOK y cc' nL' ret' n) (hf : dep ≤ R.frames) (hlo : 64 * dep ≤ R.locals) (hdep : dep' + 1 ≤ dep) : CallB R s args own idx y cc' nL' ret' (.code y cc' nL' ret' :: wsL_law) (rmx dep') 0 0 n := by
  obtain ⟨m1, m2, m3, m4, m5⟩ := hm
  refine ⟨rfl, rfl, ?_, ?_, pay_in hts (fun w hw => ?_), List.mem_cons_self, hts _ m1, hts _ m2, m3, fun sig e => ?_, hts _ hl⟩
  · show dep' + 1 ≤ R.frames
    omega
  · show 8 + (nL' + 11) + 64 * dep' ≤ R.locals
    omega
  · rcases List.mem_cons.mp hw with rfl | hw
    · exact ws_in _ m1
    · exact ws_in _ hw
  · rw [e] at m4
    exact (Option.some.inj m4).symm
theorem Px.blind {h : Hp} {av : List Value} : FrameBlind (va_Pc av (fun U => Px K h U)) := fun a U g mk q => by
  obtain ⟨q0, q1, q2, q3, q4, q5⟩ := q
  exact ⟨q0, va_K.moved (u := U) (U := U.calling g mk a) (Vm.Alike.refl U.vm) q1, q2, q3, q4, q5.calling g mk a⟩
theorem run_x {p : Program} {e : Env} {R : Room} {s : State} {m : MethodId} {args : Array Value} {below : List Frame} {meth : Method} {c : Code} {H : Heap} {locs : List Loc} {lsA : Array Slot} {a : Array Value} {ro : Option AV} {F : Hp → Prop} {st0 : List Value} (C : CX K X own cc nL ret dep p R s m args meth c) (Wx : WX K X h s H locs) (q : lv_has lsA nL (lcv K.2.2.1 0 ls))
    (hr : va_Run p K.1 e R s m args below meth c H locs X.2.2.2.1 X.2.2.2.2 0 0 (F0 m pc lsA st0) (st.map (cv K.2.2.1)) (Qx K ro F a) (AA K))
    (k : ∀ hf, F hf → AW K X own cc nL ret dep (pc + 3) ls (ro.toList ++ st) hf) : W p K.1 e R s m args below meth c H locs X.2.2.2.1 X.2.2.2.2 (X.2.1 below args s) (F0 m pc lsA st0) := by
  intro T hT XX
  obtain ⟨v, st₀, t, T', L, h0, X', hL, e1, e2, ⟨hv, ⟨hf, hFh, hP', hO'⟩, hF⟩, stp⟩ := hr T hT XX
  have hv : v = ro.map (cv K.2.2.1) := by cases hv; rfl
  subst hv
  obtain ⟨hx, hb, hre, hml, hown, hts, hlk, g1, g2, g3, g4, hD, hA, hK, hS⟩ := id C
  obtain ⟨hz, hk⟩ := hF
  rw [h0] at hz hk
  obtain ⟨t2, a1, b1⟩ := k hf hFh p e R s m args below meth c T'.heap (locs ++ L) lsA C ⟨by rw [e1]; exact hP', ⟨Nat.le_trans Wx.2.1.1 (by rw [e1]; exact hz), fun q h1 h2 => by rw [e1, hk q (Nat.lt_of_lt_of_le h1 Wx.2.1.1) (fun z => h2 (hA q z))]; exact Wx.2.1.2.1 q h1 h2, fun q hq => by
      rcases List.mem_append.mp hq with z | z
      · exact Wx.2.1.2.2 q z
      · exact hA _ (hL q z)⟩, hO'⟩ q T' rfl X'
  refine ⟨t2, stp t2 ?_, b1⟩
  cases ro <;> exact a1
theorem Px_call {p : Program} {R : Room} {s : State} {m : MethodId} {args : Array Value} {meth : Method} {c : Code} {H : Heap} {locs : List Loc} (C : CX K X own cc nL ret dep p R s m args meth c) (Wx : WX K X h s H locs) {U : State} (hU : U.heap = H) (hW : s.WarmedH U.vm) : Px K h U := by
  obtain ⟨hx, hb, hre, hml, hown, hts, hlk, g1, g2, g3, g4, hD, hA, hK, hS⟩ := id C
  exact ⟨va_K.moved hW.alike hK, by rw [hU]; exact Wx.1, Wx.2.2, hD, hS.1.warm hW (fun q h1 h2 => by rw [hU]; exact Wx.2.1.2.1 q h1 h2) hA⟩
theorem inv_x {y : MethodName} {cc' : ByteArray} {nL' : Nat} {ret' : Option FieldType} {dep' n idx k ci : Nat} {sl : List Nat} {as : List AV} {ro : Option AV} {F : Hp → Prop} (hd : decode cc pc = .ok (.invokevirtual idx, 3)) (hl : Cond.methodLink own idx y ∈ wsL_law) (hm : MOKv y cc' nL' ret' n) (hk : LY[k]? = some (0, ci, sl)) (hc : (vwCl[ci]?).map (fun q => q.1) = some y.cls) (hn : as.length = n) (hM : AMp K y cc' nL' ret' dep' (vR k :: as) h ro F) (hw : stw st ≤ 8) (hdep : dep' + 1 ≤ dep) (kk : ∀ hf, F hf → AW K X own cc nL ret dep (pc + 3) ls (ro.toList ++ st) hf) : AW K X own cc nL ret dep pc ls (as.reverse ++ vR k :: st) h := by
  intro p e R s m args below meth c H locs lsA C Wx q
  obtain ⟨hx, hb, hre, hml, hown, hts, hlk, g1, g2, g3, g4, hD, hA, hK, hS⟩ := id C
  cases hcc : vwCl[ci]? with
  | none => rw [hcc] at hc; cases hc
  | some r =>
    rw [hcc] at hc
    have hc : r.1 = y.cls := Option.some.inj hc
    refine run_x C Wx q (va_runV (As := as.map (cv K.2.2.1)) (rest := st.map (cv K.2.2.1)) (b := K.2.2.1 k) ⟨hx, hb, hml, hown, hts⟩ hM ⟨callB_x hts hl hm.1 g1 g2 hdep, hts _ hm.2.1, hts _ hm.2.2⟩ ⟨Px.blind, ?_, fun U hU hW => ⟨by simp [cv], Px_call C Wx hU hW⟩⟩ rfl (by simpa using hn) q.1 ?_ (lv_room (by rw [stw_cv]; exact hw)) hd ⟨g3, g4⟩) kk
    · obtain ⟨cell, c1, c2, c3⟩ := va_recv hK Wx.1 hcc (wld_at hk)
      exact ⟨cell, c1, c2, by rw [← hc]; exact c3⟩
    · simp [List.map_append, List.map_reverse, cv]
theorem invs_x {y : MethodName} {cc' : ByteArray} {nL' : Nat} {ret' : Option FieldType} {dep' n idx : Nat} {as : List AV} {ro : Option AV} {F : Hp → Prop} (hd : decode cc pc = .ok (.invokestatic idx, 3)) (hl : Cond.methodLink own idx y ∈ wsL_law) (hm : MOKs y cc' nL' ret' n) (hn : as.length = n) (hM : AMp K y cc' nL' ret' dep' as h ro F) (hw : stw st ≤ 8) (hdep : dep' + 1 ≤ dep) (kk : ∀ hf, F hf → AW K X own cc nL ret dep (pc + 3) ls (ro.toList ++ st) hf) : AW K X own cc nL ret dep pc ls (as.reverse ++ st) h := by
  intro p e R s m args below meth c H locs lsA C Wx q
  obtain ⟨hx, hb, hre, hml, hown, hts, hlk, g1, g2, g3, g4, hD, hA, hK, hS⟩ := id C
  refine run_x C Wx q (va_runS (As := as.map (cv K.2.2.1)) (rest := st.map (cv K.2.2.1)) ⟨hx, hb, hml, hown, hts⟩ hM ⟨callB_x hts hl hm.1 g1 g2 hdep, hts _ hm.2⟩ ⟨Px.blind, fun U hU hW => ⟨rfl, Px_call C Wx hU hW⟩⟩ rfl (by simpa using hn) q.1 ?_ (lv_room (by rw [stw_cv]; exact hw)) hd ⟨g3, g4⟩) kk
  simp [List.map_append, List.map_reverse]
theorem AW.invV0 {y : MethodName} {cc' : ByteArray} {nL' : Nat} {ret' : Option FieldType} {dep' idx k ci : Nat} {sl : List Nat} {v : AV} {hf : Hp} (hd : decode cc pc = .ok (.invokevirtual idx, 3)) (hl : Cond.methodLink own idx y ∈ wsL_law) (hm : MOKv y cc' nL' ret' 0) (hk : LY[k]? = some (0, ci, sl)) (hc : (vwCl[ci]?).map (fun q => q.1) = some y.cls) (hM : AM K y cc' nL' ret' dep' (vR k :: []) h (some v) hf) (kk : AW K X own cc nL ret dep pc' ls (v :: st) hf) (hw : stw st ≤ 8 := by exact Nat.le_of_ble_eq_true rfl) (hdep : dep' + 1 ≤ dep := by omega) (hp : pc + 3 = pc' := by rfl) : AW K X own cc nL ret dep pc ls (vR k :: st) h := by
  subst hp
  exact inv_x (as := []) hd hl hm hk hc rfl hM hw hdep (fun _ e => e ▸ kk)
theorem AW.invQ0 {y : MethodName} {cc' : ByteArray} {nL' : Nat} {ret' : Option FieldType} {dep' idx k ci : Nat} {sl : List Nat} {v : AV} {F : Hp → Prop} (hd : decode cc pc = .ok (.invokevirtual idx, 3)) (hl : Cond.methodLink own idx y ∈ wsL_law) (hm : MOKv y cc' nL' ret' 0) (hk : LY[k]? = some (0, ci, sl)) (hc : (vwCl[ci]?).map (fun q => q.1) = some y.cls) (hM : AMp K y cc' nL' ret' dep' (vR k :: []) h (some v) F) (kk : ∀ hf, F hf → AW K X own cc nL ret dep pc' ls (v :: st) hf) (hw : stw st ≤ 8 := by exact Nat.le_of_ble_eq_true rfl) (hdep : dep' + 1 ≤ dep := by omega) (hp : pc + 3 = pc' := by rfl) : AW K X own cc nL ret dep pc ls (vR k :: st) h := by
  subst hp
  exact inv_x (as := []) hd hl hm hk hc rfl hM hw hdep kk
theorem AW.invS0 {y : MethodName} {cc' : ByteArray} {nL' : Nat} {ret' : Option FieldType} {dep' idx : Nat} {v : AV} {hf : Hp} (hd : decode cc pc = .ok (.invokestatic idx, 3)) (hl : Cond.methodLink own idx y ∈ wsL_law) (hm : MOKs y cc' nL' ret' 0) (hM : AM K y cc' nL' ret' dep' [] h (some v) hf) (kk : AW K X own cc nL ret dep pc' ls (v :: st) hf) (hw : stw st ≤ 8 := by exact Nat.le_of_ble_eq_true rfl) (hdep : dep' + 1 ≤ dep := by omega) (hp : pc + 3 = pc' := by rfl) : AW K X own cc nL ret dep pc ls (st) h := by
  subst hp
  exact invs_x (as := []) hd hl hm rfl hM hw hdep (fun _ e => e ▸ kk)
theorem AW.invV0v {y : MethodName} {cc' : ByteArray} {nL' : Nat} {ret' : Option FieldType} {dep' idx k ci : Nat} {sl : List Nat} {hf : Hp} (hd : decode cc pc = .ok (.invokevirtual idx, 3)) (hl : Cond.methodLink own idx y ∈ wsL_law) (hm : MOKv y cc' nL' ret' 0) (hk : LY[k]? = some (0, ci, sl)) (hc : (vwCl[ci]?).map (fun q => q.1) = some y.cls) (hM : AM K y cc' nL' ret' dep' (vR k :: []) h none hf) (kk : AW K X own cc nL ret dep pc' ls (st) hf) (hw : stw st ≤ 8 := by exact Nat.le_of_ble_eq_true rfl) (hdep : dep' + 1 ≤ dep := by omega) (hp : pc + 3 = pc' := by rfl) : AW K X own cc nL ret dep pc ls (vR k :: st) h := by
  subst hp
  exact inv_x (as := []) hd hl hm hk hc rfl hM hw hdep (fun _ e => e ▸ kk)
theorem AW.invQ0v {y : MethodName} {cc' : ByteArray} {nL' : Nat} {ret' : Option FieldType} {dep' idx k ci : Nat} {sl : List Nat} {F : Hp → Prop} (hd : decode cc pc = .ok (.invokevirtual idx, 3)) (hl : Cond.methodLink own idx y ∈ wsL_law) (hm : MOKv y cc' nL' ret' 0) (hk : LY[k]? = some (0, ci, sl)) (hc : (vwCl[ci]?).map (fun q => q.1) = some y.cls) (hM : AMp K y cc' nL' ret' dep' (vR k :: []) h none F) (kk : ∀ hf, F hf → AW K X own cc nL ret dep pc' ls (st) hf) (hw : stw st ≤ 8 := by exact Nat.le_of_ble_eq_true rfl) (hdep : dep' + 1 ≤ dep := by omega) (hp : pc + 3 = pc' := by rfl) : AW K X own cc nL ret dep pc ls (vR k :: st) h := by
  subst hp
  exact inv_x (as := []) hd hl hm hk hc rfl hM hw hdep kk
theorem AW.invS0v {y : MethodName} {cc' : ByteArray} {nL' : Nat} {ret' : Option FieldType} {dep' idx : Nat} {hf : Hp} (hd : decode cc pc = .ok (.invokestatic idx, 3)) (hl : Cond.methodLink own idx y ∈ wsL_law) (hm : MOKs y cc' nL' ret' 0) (hM : AM K y cc' nL' ret' dep' [] h none hf) (kk : AW K X own cc nL ret dep pc' ls (st) hf) (hw : stw st ≤ 8 := by exact Nat.le_of_ble_eq_true rfl) (hdep : dep' + 1 ≤ dep := by omega) (hp : pc + 3 = pc' := by rfl) : AW K X own cc nL ret dep pc ls (st) h := by
  subst hp
  exact invs_x (as := []) hd hl hm rfl hM hw hdep (fun _ e => e ▸ kk)
theorem AW.invV1 {y : MethodName} {cc' : ByteArray} {nL' : Nat} {ret' : Option FieldType} {dep' idx k ci : Nat} {sl : List Nat} {a1 : AV} {v : AV} {hf : Hp} (hd : decode cc pc = .ok (.invokevirtual idx, 3)) (hl : Cond.methodLink own idx y ∈ wsL_law) (hm : MOKv y cc' nL' ret' 1) (hk : LY[k]? = some (0, ci, sl)) (hc : (vwCl[ci]?).map (fun q => q.1) = some y.cls) (hM : AM K y cc' nL' ret' dep' (vR k :: [a1]) h (some v) hf) (kk : AW K X own cc nL ret dep pc' ls (v :: st) hf) (hw : stw st ≤ 8 := by exact Nat.le_of_ble_eq_true rfl) (hdep : dep' + 1 ≤ dep := by omega) (hp : pc + 3 = pc' := by rfl) : AW K X own cc nL ret dep pc ls (a1 :: vR k :: st) h := by
  subst hp
  exact inv_x (as := [a1]) hd hl hm hk hc rfl hM hw hdep (fun _ e => e ▸ kk)
theorem AW.invQ1 {y : MethodName} {cc' : ByteArray} {nL' : Nat} {ret' : Option FieldType} {dep' idx k ci : Nat} {sl : List Nat} {a1 : AV} {v : AV} {F : Hp → Prop} (hd : decode cc pc = .ok (.invokevirtual idx, 3)) (hl : Cond.methodLink own idx y ∈ wsL_law) (hm : MOKv y cc' nL' ret' 1) (hk : LY[k]? = some (0, ci, sl)) (hc : (vwCl[ci]?).map (fun q => q.1) = some y.cls) (hM : AMp K y cc' nL' ret' dep' (vR k :: [a1]) h (some v) F) (kk : ∀ hf, F hf → AW K X own cc nL ret dep pc' ls (v :: st) hf) (hw : stw st ≤ 8 := by exact Nat.le_of_ble_eq_true rfl) (hdep : dep' + 1 ≤ dep := by omega) (hp : pc + 3 = pc' := by rfl) : AW K X own cc nL ret dep pc ls (a1 :: vR k :: st) h := by
  subst hp
  exact inv_x (as := [a1]) hd hl hm hk hc rfl hM hw hdep kk
theorem AW.invS1 {y : MethodName} {cc' : ByteArray} {nL' : Nat} {ret' : Option FieldType} {dep' idx : Nat} {a1 : AV} {v : AV} {hf : Hp} (hd : decode cc pc = .ok (.invokestatic idx, 3)) (hl : Cond.methodLink own idx y ∈ wsL_law) (hm : MOKs y cc' nL' ret' 1) (hM : AM K y cc' nL' ret' dep' [a1] h (some v) hf) (kk : AW K X own cc nL ret dep pc' ls (v :: st) hf) (hw : stw st ≤ 8 := by exact Nat.le_of_ble_eq_true rfl) (hdep : dep' + 1 ≤ dep := by omega) (hp : pc + 3 = pc' := by rfl) : AW K X own cc nL ret dep pc ls (a1 :: st) h := by
  subst hp
  exact invs_x (as := [a1]) hd hl hm rfl hM hw hdep (fun _ e => e ▸ kk)
theorem AW.invV1v {y : MethodName} {cc' : ByteArray} {nL' : Nat} {ret' : Option FieldType} {dep' idx k ci : Nat} {sl : List Nat} {a1 : AV} {hf : Hp} (hd : decode cc pc = .ok (.invokevirtual idx, 3)) (hl : Cond.methodLink own idx y ∈ wsL_law) (hm : MOKv y cc' nL' ret' 1) (hk : LY[k]? = some (0, ci, sl)) (hc : (vwCl[ci]?).map (fun q => q.1) = some y.cls) (hM : AM K y cc' nL' ret' dep' (vR k :: [a1]) h none hf) (kk : AW K X own cc nL ret dep pc' ls (st) hf) (hw : stw st ≤ 8 := by exact Nat.le_of_ble_eq_true rfl) (hdep : dep' + 1 ≤ dep := by omega) (hp : pc + 3 = pc' := by rfl) : AW K X own cc nL ret dep pc ls (a1 :: vR k :: st) h := by
  subst hp
  exact inv_x (as := [a1]) hd hl hm hk hc rfl hM hw hdep (fun _ e => e ▸ kk)
theorem AW.invQ1v {y : MethodName} {cc' : ByteArray} {nL' : Nat} {ret' : Option FieldType} {dep' idx k ci : Nat} {sl : List Nat} {a1 : AV} {F : Hp → Prop} (hd : decode cc pc = .ok (.invokevirtual idx, 3)) (hl : Cond.methodLink own idx y ∈ wsL_law) (hm : MOKv y cc' nL' ret' 1) (hk : LY[k]? = some (0, ci, sl)) (hc : (vwCl[ci]?).map (fun q => q.1) = some y.cls) (hM : AMp K y cc' nL' ret' dep' (vR k :: [a1]) h none F) (kk : ∀ hf, F hf → AW K X own cc nL ret dep pc' ls (st) hf) (hw : stw st ≤ 8 := by exact Nat.le_of_ble_eq_true rfl) (hdep : dep' + 1 ≤ dep := by omega) (hp : pc + 3 = pc' := by rfl) : AW K X own cc nL ret dep pc ls (a1 :: vR k :: st) h := by
  subst hp
  exact inv_x (as := [a1]) hd hl hm hk hc rfl hM hw hdep kk
theorem AW.invS1v {y : MethodName} {cc' : ByteArray} {nL' : Nat} {ret' : Option FieldType} {dep' idx : Nat} {a1 : AV} {hf : Hp} (hd : decode cc pc = .ok (.invokestatic idx, 3)) (hl : Cond.methodLink own idx y ∈ wsL_law) (hm : MOKs y cc' nL' ret' 1) (hM : AM K y cc' nL' ret' dep' [a1] h none hf) (kk : AW K X own cc nL ret dep pc' ls (st) hf) (hw : stw st ≤ 8 := by exact Nat.le_of_ble_eq_true rfl) (hdep : dep' + 1 ≤ dep := by omega) (hp : pc + 3 = pc' := by rfl) : AW K X own cc nL ret dep pc ls (a1 :: st) h := by
  subst hp
  exact invs_x (as := [a1]) hd hl hm rfl hM hw hdep (fun _ e => e ▸ kk)
theorem AW.invV2 {y : MethodName} {cc' : ByteArray} {nL' : Nat} {ret' : Option FieldType} {dep' idx k ci : Nat} {sl : List Nat} {a1 a2 : AV} {v : AV} {hf : Hp} (hd : decode cc pc = .ok (.invokevirtual idx, 3)) (hl : Cond.methodLink own idx y ∈ wsL_law) (hm : MOKv y cc' nL' ret' 2) (hk : LY[k]? = some (0, ci, sl)) (hc : (vwCl[ci]?).map (fun q => q.1) = some y.cls) (hM : AM K y cc' nL' ret' dep' (vR k :: [a1, a2]) h (some v) hf) (kk : AW K X own cc nL ret dep pc' ls (v :: st) hf) (hw : stw st ≤ 8 := by exact Nat.le_of_ble_eq_true rfl) (hdep : dep' + 1 ≤ dep := by omega) (hp : pc + 3 = pc' := by rfl) : AW K X own cc nL ret dep pc ls (a2 :: a1 :: vR k :: st) h := by
  subst hp
  exact inv_x (as := [a1, a2]) hd hl hm hk hc rfl hM hw hdep (fun _ e => e ▸ kk)
theorem AW.invQ2 {y : MethodName} {cc' : ByteArray} {nL' : Nat} {ret' : Option FieldType} {dep' idx k ci : Nat} {sl : List Nat} {a1 a2 : AV} {v : AV} {F : Hp → Prop} (hd : decode cc pc = .ok (.invokevirtual idx, 3)) (hl : Cond.methodLink own idx y ∈ wsL_law) (hm : MOKv y cc' nL' ret' 2) (hk : LY[k]? = some (0, ci, sl)) (hc : (vwCl[ci]?).map (fun q => q.1) = some y.cls) (hM : AMp K y cc' nL' ret' dep' (vR k :: [a1, a2]) h (some v) F) (kk : ∀ hf, F hf → AW K X own cc nL ret dep pc' ls (v :: st) hf) (hw : stw st ≤ 8 := by exact Nat.le_of_ble_eq_true rfl) (hdep : dep' + 1 ≤ dep := by omega) (hp : pc + 3 = pc' := by rfl) : AW K X own cc nL ret dep pc ls (a2 :: a1 :: vR k :: st) h := by
  subst hp
  exact inv_x (as := [a1, a2]) hd hl hm hk hc rfl hM hw hdep kk
theorem AW.invS2 {y : MethodName} {cc' : ByteArray} {nL' : Nat} {ret' : Option FieldType} {dep' idx : Nat} {a1 a2 : AV} {v : AV} {hf : Hp} (hd : decode cc pc = .ok (.invokestatic idx, 3)) (hl : Cond.methodLink own idx y ∈ wsL_law) (hm : MOKs y cc' nL' ret' 2) (hM : AM K y cc' nL' ret' dep' [a1, a2] h (some v) hf) (kk : AW K X own cc nL ret dep pc' ls (v :: st) hf) (hw : stw st ≤ 8 := by exact Nat.le_of_ble_eq_true rfl) (hdep : dep' + 1 ≤ dep := by omega) (hp : pc + 3 = pc' := by rfl) : AW K X own cc nL ret dep pc ls (a2 :: a1 :: st) h := by
  subst hp
  exact invs_x (as := [a1, a2]) hd hl hm rfl hM hw hdep (fun _ e => e ▸ kk)
theorem AW.invV2v {y : MethodName} {cc' : ByteArray} {nL' : Nat} {ret' : Option FieldType} {dep' idx k ci : Nat} {sl : List Nat} {a1 a2 : AV} {hf : Hp} (hd : decode cc pc = .ok (.invokevirtual idx, 3)) (hl : Cond.methodLink own idx y ∈ wsL_law) (hm : MOKv y cc' nL' ret' 2) (hk : LY[k]? = some (0, ci, sl)) (hc : (vwCl[ci]?).map (fun q => q.1) = some y.cls) (hM : AM K y cc' nL' ret' dep' (vR k :: [a1, a2]) h none hf) (kk : AW K X own cc nL ret dep pc' ls (st) hf) (hw : stw st ≤ 8 := by exact Nat.le_of_ble_eq_true rfl) (hdep : dep' + 1 ≤ dep := by omega) (hp : pc + 3 = pc' := by rfl) : AW K X own cc nL ret dep pc ls (a2 :: a1 :: vR k :: st) h := by
  subst hp
  exact inv_x (as := [a1, a2]) hd hl hm hk hc rfl hM hw hdep (fun _ e => e ▸ kk)
theorem AW.invQ2v {y : MethodName} {cc' : ByteArray} {nL' : Nat} {ret' : Option FieldType} {dep' idx k ci : Nat} {sl : List Nat} {a1 a2 : AV} {F : Hp → Prop} (hd : decode cc pc = .ok (.invokevirtual idx, 3)) (hl : Cond.methodLink own idx y ∈ wsL_law) (hm : MOKv y cc' nL' ret' 2) (hk : LY[k]? = some (0, ci, sl)) (hc : (vwCl[ci]?).map (fun q => q.1) = some y.cls) (hM : AMp K y cc' nL' ret' dep' (vR k :: [a1, a2]) h none F) (kk : ∀ hf, F hf → AW K X own cc nL ret dep pc' ls (st) hf) (hw : stw st ≤ 8 := by exact Nat.le_of_ble_eq_true rfl) (hdep : dep' + 1 ≤ dep := by omega) (hp : pc + 3 = pc' := by rfl) : AW K X own cc nL ret dep pc ls (a2 :: a1 :: vR k :: st) h := by
  subst hp
  exact inv_x (as := [a1, a2]) hd hl hm hk hc rfl hM hw hdep kk
theorem AW.invS2v {y : MethodName} {cc' : ByteArray} {nL' : Nat} {ret' : Option FieldType} {dep' idx : Nat} {a1 a2 : AV} {hf : Hp} (hd : decode cc pc = .ok (.invokestatic idx, 3)) (hl : Cond.methodLink own idx y ∈ wsL_law) (hm : MOKs y cc' nL' ret' 2) (hM : AM K y cc' nL' ret' dep' [a1, a2] h none hf) (kk : AW K X own cc nL ret dep pc' ls (st) hf) (hw : stw st ≤ 8 := by exact Nat.le_of_ble_eq_true rfl) (hdep : dep' + 1 ≤ dep := by omega) (hp : pc + 3 = pc' := by rfl) : AW K X own cc nL ret dep pc ls (a2 :: a1 :: st) h := by
  subst hp
  exact invs_x (as := [a1, a2]) hd hl hm rfl hM hw hdep (fun _ e => e ▸ kk)
theorem AW.invV3 {y : MethodName} {cc' : ByteArray} {nL' : Nat} {ret' : Option FieldType} {dep' idx k ci : Nat} {sl : List Nat} {a1 a2 a3 : AV} {v : AV} {hf : Hp} (hd : decode cc pc = .ok (.invokevirtual idx, 3)) (hl : Cond.methodLink own idx y ∈ wsL_law) (hm : MOKv y cc' nL' ret' 3) (hk : LY[k]? = some (0, ci, sl)) (hc : (vwCl[ci]?).map (fun q => q.1) = some y.cls) (hM : AM K y cc' nL' ret' dep' (vR k :: [a1, a2, a3]) h (some v) hf) (kk : AW K X own cc nL ret dep pc' ls (v :: st) hf) (hw : stw st ≤ 8 := by exact Nat.le_of_ble_eq_true rfl) (hdep : dep' + 1 ≤ dep := by omega) (hp : pc + 3 = pc' := by rfl) : AW K X own cc nL ret dep pc ls (a3 :: a2 :: a1 :: vR k :: st) h := by
  subst hp
  exact inv_x (as := [a1, a2, a3]) hd hl hm hk hc rfl hM hw hdep (fun _ e => e ▸ kk)
theorem AW.invQ3 {y : MethodName} {cc' : ByteArray} {nL' : Nat} {ret' : Option FieldType} {dep' idx k ci : Nat} {sl : List Nat} {a1 a2 a3 : AV} {v : AV} {F : Hp → Prop} (hd : decode cc pc = .ok (.invokevirtual idx, 3)) (hl : Cond.methodLink own idx y ∈ wsL_law) (hm : MOKv y cc' nL' ret' 3) (hk : LY[k]? = some (0, ci, sl)) (hc : (vwCl[ci]?).map (fun q => q.1) = some y.cls) (hM : AMp K y cc' nL' ret' dep' (vR k :: [a1, a2, a3]) h (some v) F) (kk : ∀ hf, F hf → AW K X own cc nL ret dep pc' ls (v :: st) hf) (hw : stw st ≤ 8 := by exact Nat.le_of_ble_eq_true rfl) (hdep : dep' + 1 ≤ dep := by omega) (hp : pc + 3 = pc' := by rfl) : AW K X own cc nL ret dep pc ls (a3 :: a2 :: a1 :: vR k :: st) h := by
  subst hp
  exact inv_x (as := [a1, a2, a3]) hd hl hm hk hc rfl hM hw hdep kk
theorem AW.invS3 {y : MethodName} {cc' : ByteArray} {nL' : Nat} {ret' : Option FieldType} {dep' idx : Nat} {a1 a2 a3 : AV} {v : AV} {hf : Hp} (hd : decode cc pc = .ok (.invokestatic idx, 3)) (hl : Cond.methodLink own idx y ∈ wsL_law) (hm : MOKs y cc' nL' ret' 3) (hM : AM K y cc' nL' ret' dep' [a1, a2, a3] h (some v) hf) (kk : AW K X own cc nL ret dep pc' ls (v :: st) hf) (hw : stw st ≤ 8 := by exact Nat.le_of_ble_eq_true rfl) (hdep : dep' + 1 ≤ dep := by omega) (hp : pc + 3 = pc' := by rfl) : AW K X own cc nL ret dep pc ls (a3 :: a2 :: a1 :: st) h := by
  subst hp
  exact invs_x (as := [a1, a2, a3]) hd hl hm rfl hM hw hdep (fun _ e => e ▸ kk)
theorem AW.invV3v {y : MethodName} {cc' : ByteArray} {nL' : Nat} {ret' : Option FieldType} {dep' idx k ci : Nat} {sl : List Nat} {a1 a2 a3 : AV} {hf : Hp} (hd : decode cc pc = .ok (.invokevirtual idx, 3)) (hl : Cond.methodLink own idx y ∈ wsL_law) (hm : MOKv y cc' nL' ret' 3) (hk : LY[k]? = some (0, ci, sl)) (hc : (vwCl[ci]?).map (fun q => q.1) = some y.cls) (hM : AM K y cc' nL' ret' dep' (vR k :: [a1, a2, a3]) h none hf) (kk : AW K X own cc nL ret dep pc' ls (st) hf) (hw : stw st ≤ 8 := by exact Nat.le_of_ble_eq_true rfl) (hdep : dep' + 1 ≤ dep := by omega) (hp : pc + 3 = pc' := by rfl) : AW K X own cc nL ret dep pc ls (a3 :: a2 :: a1 :: vR k :: st) h := by
  subst hp
  exact inv_x (as := [a1, a2, a3]) hd hl hm hk hc rfl hM hw hdep (fun _ e => e ▸ kk)
theorem AW.invQ3v {y : MethodName} {cc' : ByteArray} {nL' : Nat} {ret' : Option FieldType} {dep' idx k ci : Nat} {sl : List Nat} {a1 a2 a3 : AV} {F : Hp → Prop} (hd : decode cc pc = .ok (.invokevirtual idx, 3)) (hl : Cond.methodLink own idx y ∈ wsL_law) (hm : MOKv y cc' nL' ret' 3) (hk : LY[k]? = some (0, ci, sl)) (hc : (vwCl[ci]?).map (fun q => q.1) = some y.cls) (hM : AMp K y cc' nL' ret' dep' (vR k :: [a1, a2, a3]) h none F) (kk : ∀ hf, F hf → AW K X own cc nL ret dep pc' ls (st) hf) (hw : stw st ≤ 8 := by exact Nat.le_of_ble_eq_true rfl) (hdep : dep' + 1 ≤ dep := by omega) (hp : pc + 3 = pc' := by rfl) : AW K X own cc nL ret dep pc ls (a3 :: a2 :: a1 :: vR k :: st) h := by
  subst hp
  exact inv_x (as := [a1, a2, a3]) hd hl hm hk hc rfl hM hw hdep kk
theorem AW.invS3v {y : MethodName} {cc' : ByteArray} {nL' : Nat} {ret' : Option FieldType} {dep' idx : Nat} {a1 a2 a3 : AV} {hf : Hp} (hd : decode cc pc = .ok (.invokestatic idx, 3)) (hl : Cond.methodLink own idx y ∈ wsL_law) (hm : MOKs y cc' nL' ret' 3) (hM : AM K y cc' nL' ret' dep' [a1, a2, a3] h none hf) (kk : AW K X own cc nL ret dep pc' ls (st) hf) (hw : stw st ≤ 8 := by exact Nat.le_of_ble_eq_true rfl) (hdep : dep' + 1 ≤ dep := by omega) (hp : pc + 3 = pc' := by rfl) : AW K X own cc nL ret dep pc ls (a3 :: a2 :: a1 :: st) h := by
  subst hp
  exact invs_x (as := [a1, a2, a3]) hd hl hm rfl hM hw hdep (fun _ e => e ▸ kk)
theorem AW.invV4 {y : MethodName} {cc' : ByteArray} {nL' : Nat} {ret' : Option FieldType} {dep' idx k ci : Nat} {sl : List Nat} {a1 a2 a3 a4 : AV} {v : AV} {hf : Hp} (hd : decode cc pc = .ok (.invokevirtual idx, 3)) (hl : Cond.methodLink own idx y ∈ wsL_law) (hm : MOKv y cc' nL' ret' 4) (hk : LY[k]? = some (0, ci, sl)) (hc : (vwCl[ci]?).map (fun q => q.1) = some y.cls) (hM : AM K y cc' nL' ret' dep' (vR k :: [a1, a2, a3, a4]) h (some v) hf) (kk : AW K X own cc nL ret dep pc' ls (v :: st) hf) (hw : stw st ≤ 8 := by exact Nat.le_of_ble_eq_true rfl) (hdep : dep' + 1 ≤ dep := by omega) (hp : pc + 3 = pc' := by rfl) : AW K X own cc nL ret dep pc ls (a4 :: a3 :: a2 :: a1 :: vR k :: st) h := by
  subst hp
  exact inv_x (as := [a1, a2, a3, a4]) hd hl hm hk hc rfl hM hw hdep (fun _ e => e ▸ kk)
theorem AW.invQ4 {y : MethodName} {cc' : ByteArray} {nL' : Nat} {ret' : Option FieldType} {dep' idx k ci : Nat} {sl : List Nat} {a1 a2 a3 a4 : AV} {v : AV} {F : Hp → Prop} (hd : decode cc pc = .ok (.invokevirtual idx, 3)) (hl : Cond.methodLink own idx y ∈ wsL_law) (hm : MOKv y cc' nL' ret' 4) (hk : LY[k]? = some (0, ci, sl)) (hc : (vwCl[ci]?).map (fun q => q.1) = some y.cls) (hM : AMp K y cc' nL' ret' dep' (vR k :: [a1, a2, a3, a4]) h (some v) F) (kk : ∀ hf, F hf → AW K X own cc nL ret dep pc' ls (v :: st) hf) (hw : stw st ≤ 8 := by exact Nat.le_of_ble_eq_true rfl) (hdep : dep' + 1 ≤ dep := by omega) (hp : pc + 3 = pc' := by rfl) : AW K X own cc nL ret dep pc ls (a4 :: a3 :: a2 :: a1 :: vR k :: st) h := by
  subst hp
  exact inv_x (as := [a1, a2, a3, a4]) hd hl hm hk hc rfl hM hw hdep kk
theorem AW.invS4 {y : MethodName} {cc' : ByteArray} {nL' : Nat} {ret' : Option FieldType} {dep' idx : Nat} {a1 a2 a3 a4 : AV} {v : AV} {hf : Hp} (hd : decode cc pc = .ok (.invokestatic idx, 3)) (hl : Cond.methodLink own idx y ∈ wsL_law) (hm : MOKs y cc' nL' ret' 4) (hM : AM K y cc' nL' ret' dep' [a1, a2, a3, a4] h (some v) hf) (kk : AW K X own cc nL ret dep pc' ls (v :: st) hf) (hw : stw st ≤ 8 := by exact Nat.le_of_ble_eq_true rfl) (hdep : dep' + 1 ≤ dep := by omega) (hp : pc + 3 = pc' := by rfl) : AW K X own cc nL ret dep pc ls (a4 :: a3 :: a2 :: a1 :: st) h := by
  subst hp
  exact invs_x (as := [a1, a2, a3, a4]) hd hl hm rfl hM hw hdep (fun _ e => e ▸ kk)
theorem AW.invV4v {y : MethodName} {cc' : ByteArray} {nL' : Nat} {ret' : Option FieldType} {dep' idx k ci : Nat} {sl : List Nat} {a1 a2 a3 a4 : AV} {hf : Hp} (hd : decode cc pc = .ok (.invokevirtual idx, 3)) (hl : Cond.methodLink own idx y ∈ wsL_law) (hm : MOKv y cc' nL' ret' 4) (hk : LY[k]? = some (0, ci, sl)) (hc : (vwCl[ci]?).map (fun q => q.1) = some y.cls) (hM : AM K y cc' nL' ret' dep' (vR k :: [a1, a2, a3, a4]) h none hf) (kk : AW K X own cc nL ret dep pc' ls (st) hf) (hw : stw st ≤ 8 := by exact Nat.le_of_ble_eq_true rfl) (hdep : dep' + 1 ≤ dep := by omega) (hp : pc + 3 = pc' := by rfl) : AW K X own cc nL ret dep pc ls (a4 :: a3 :: a2 :: a1 :: vR k :: st) h := by
  subst hp
  exact inv_x (as := [a1, a2, a3, a4]) hd hl hm hk hc rfl hM hw hdep (fun _ e => e ▸ kk)
theorem AW.invQ4v {y : MethodName} {cc' : ByteArray} {nL' : Nat} {ret' : Option FieldType} {dep' idx k ci : Nat} {sl : List Nat} {a1 a2 a3 a4 : AV} {F : Hp → Prop} (hd : decode cc pc = .ok (.invokevirtual idx, 3)) (hl : Cond.methodLink own idx y ∈ wsL_law) (hm : MOKv y cc' nL' ret' 4) (hk : LY[k]? = some (0, ci, sl)) (hc : (vwCl[ci]?).map (fun q => q.1) = some y.cls) (hM : AMp K y cc' nL' ret' dep' (vR k :: [a1, a2, a3, a4]) h none F) (kk : ∀ hf, F hf → AW K X own cc nL ret dep pc' ls (st) hf) (hw : stw st ≤ 8 := by exact Nat.le_of_ble_eq_true rfl) (hdep : dep' + 1 ≤ dep := by omega) (hp : pc + 3 = pc' := by rfl) : AW K X own cc nL ret dep pc ls (a4 :: a3 :: a2 :: a1 :: vR k :: st) h := by
  subst hp
  exact inv_x (as := [a1, a2, a3, a4]) hd hl hm hk hc rfl hM hw hdep kk
theorem AW.invS4v {y : MethodName} {cc' : ByteArray} {nL' : Nat} {ret' : Option FieldType} {dep' idx : Nat} {a1 a2 a3 a4 : AV} {hf : Hp} (hd : decode cc pc = .ok (.invokestatic idx, 3)) (hl : Cond.methodLink own idx y ∈ wsL_law) (hm : MOKs y cc' nL' ret' 4) (hM : AM K y cc' nL' ret' dep' [a1, a2, a3, a4] h none hf) (kk : AW K X own cc nL ret dep pc' ls (st) hf) (hw : stw st ≤ 8 := by exact Nat.le_of_ble_eq_true rfl) (hdep : dep' + 1 ≤ dep := by omega) (hp : pc + 3 = pc' := by rfl) : AW K X own cc nL ret dep pc ls (a4 :: a3 :: a2 :: a1 :: st) h := by
  subst hp
  exact invs_x (as := [a1, a2, a3, a4]) hd hl hm rfl hM hw hdep (fun _ e => e ▸ kk)
theorem AW.invV5 {y : MethodName} {cc' : ByteArray} {nL' : Nat} {ret' : Option FieldType} {dep' idx k ci : Nat} {sl : List Nat} {a1 a2 a3 a4 a5 : AV} {v : AV} {hf : Hp} (hd : decode cc pc = .ok (.invokevirtual idx, 3)) (hl : Cond.methodLink own idx y ∈ wsL_law) (hm : MOKv y cc' nL' ret' 5) (hk : LY[k]? = some (0, ci, sl)) (hc : (vwCl[ci]?).map (fun q => q.1) = some y.cls) (hM : AM K y cc' nL' ret' dep' (vR k :: [a1, a2, a3, a4, a5]) h (some v) hf) (kk : AW K X own cc nL ret dep pc' ls (v :: st) hf) (hw : stw st ≤ 8 := by exact Nat.le_of_ble_eq_true rfl) (hdep : dep' + 1 ≤ dep := by omega) (hp : pc + 3 = pc' := by rfl) : AW K X own cc nL ret dep pc ls (a5 :: a4 :: a3 :: a2 :: a1 :: vR k :: st) h := by
  subst hp
  exact inv_x (as := [a1, a2, a3, a4, a5]) hd hl hm hk hc rfl hM hw hdep (fun _ e => e ▸ kk)
theorem AW.invQ5 {y : MethodName} {cc' : ByteArray} {nL' : Nat} {ret' : Option FieldType} {dep' idx k ci : Nat} {sl : List Nat} {a1 a2 a3 a4 a5 : AV} {v : AV} {F : Hp → Prop} (hd : decode cc pc = .ok (.invokevirtual idx, 3)) (hl : Cond.methodLink own idx y ∈ wsL_law) (hm : MOKv y cc' nL' ret' 5) (hk : LY[k]? = some (0, ci, sl)) (hc : (vwCl[ci]?).map (fun q => q.1) = some y.cls) (hM : AMp K y cc' nL' ret' dep' (vR k :: [a1, a2, a3, a4, a5]) h (some v) F) (kk : ∀ hf, F hf → AW K X own cc nL ret dep pc' ls (v :: st) hf) (hw : stw st ≤ 8 := by exact Nat.le_of_ble_eq_true rfl) (hdep : dep' + 1 ≤ dep := by omega) (hp : pc + 3 = pc' := by rfl) : AW K X own cc nL ret dep pc ls (a5 :: a4 :: a3 :: a2 :: a1 :: vR k :: st) h := by
  subst hp
  exact inv_x (as := [a1, a2, a3, a4, a5]) hd hl hm hk hc rfl hM hw hdep kk
theorem AW.invS5 {y : MethodName} {cc' : ByteArray} {nL' : Nat} {ret' : Option FieldType} {dep' idx : Nat} {a1 a2 a3 a4 a5 : AV} {v : AV} {hf : Hp} (hd : decode cc pc = .ok (.invokestatic idx, 3)) (hl : Cond.methodLink own idx y ∈ wsL_law) (hm : MOKs y cc' nL' ret' 5) (hM : AM K y cc' nL' ret' dep' [a1, a2, a3, a4, a5] h (some v) hf) (kk : AW K X own cc nL ret dep pc' ls (v :: st) hf) (hw : stw st ≤ 8 := by exact Nat.le_of_ble_eq_true rfl) (hdep : dep' + 1 ≤ dep := by omega) (hp : pc + 3 = pc' := by rfl) : AW K X own cc nL ret dep pc ls (a5 :: a4 :: a3 :: a2 :: a1 :: st) h := by
  subst hp
  exact invs_x (as := [a1, a2, a3, a4, a5]) hd hl hm rfl hM hw hdep (fun _ e => e ▸ kk)
theorem AW.invV5v {y : MethodName} {cc' : ByteArray} {nL' : Nat} {ret' : Option FieldType} {dep' idx k ci : Nat} {sl : List Nat} {a1 a2 a3 a4 a5 : AV} {hf : Hp} (hd : decode cc pc = .ok (.invokevirtual idx, 3)) (hl : Cond.methodLink own idx y ∈ wsL_law) (hm : MOKv y cc' nL' ret' 5) (hk : LY[k]? = some (0, ci, sl)) (hc : (vwCl[ci]?).map (fun q => q.1) = some y.cls) (hM : AM K y cc' nL' ret' dep' (vR k :: [a1, a2, a3, a4, a5]) h none hf) (kk : AW K X own cc nL ret dep pc' ls (st) hf) (hw : stw st ≤ 8 := by exact Nat.le_of_ble_eq_true rfl) (hdep : dep' + 1 ≤ dep := by omega) (hp : pc + 3 = pc' := by rfl) : AW K X own cc nL ret dep pc ls (a5 :: a4 :: a3 :: a2 :: a1 :: vR k :: st) h := by
  subst hp
  exact inv_x (as := [a1, a2, a3, a4, a5]) hd hl hm hk hc rfl hM hw hdep (fun _ e => e ▸ kk)
theorem AW.invQ5v {y : MethodName} {cc' : ByteArray} {nL' : Nat} {ret' : Option FieldType} {dep' idx k ci : Nat} {sl : List Nat} {a1 a2 a3 a4 a5 : AV} {F : Hp → Prop} (hd : decode cc pc = .ok (.invokevirtual idx, 3)) (hl : Cond.methodLink own idx y ∈ wsL_law) (hm : MOKv y cc' nL' ret' 5) (hk : LY[k]? = some (0, ci, sl)) (hc : (vwCl[ci]?).map (fun q => q.1) = some y.cls) (hM : AMp K y cc' nL' ret' dep' (vR k :: [a1, a2, a3, a4, a5]) h none F) (kk : ∀ hf, F hf → AW K X own cc nL ret dep pc' ls (st) hf) (hw : stw st ≤ 8 := by exact Nat.le_of_ble_eq_true rfl) (hdep : dep' + 1 ≤ dep := by omega) (hp : pc + 3 = pc' := by rfl) : AW K X own cc nL ret dep pc ls (a5 :: a4 :: a3 :: a2 :: a1 :: vR k :: st) h := by
  subst hp
  exact inv_x (as := [a1, a2, a3, a4, a5]) hd hl hm hk hc rfl hM hw hdep kk
theorem AW.invS5v {y : MethodName} {cc' : ByteArray} {nL' : Nat} {ret' : Option FieldType} {dep' idx : Nat} {a1 a2 a3 a4 a5 : AV} {hf : Hp} (hd : decode cc pc = .ok (.invokestatic idx, 3)) (hl : Cond.methodLink own idx y ∈ wsL_law) (hm : MOKs y cc' nL' ret' 5) (hM : AM K y cc' nL' ret' dep' [a1, a2, a3, a4, a5] h none hf) (kk : AW K X own cc nL ret dep pc' ls (st) hf) (hw : stw st ≤ 8 := by exact Nat.le_of_ble_eq_true rfl) (hdep : dep' + 1 ≤ dep := by omega) (hp : pc + 3 = pc' := by rfl) : AW K X own cc nL ret dep pc ls (a5 :: a4 :: a3 :: a2 :: a1 :: st) h := by
  subst hp
  exact invs_x (as := [a1, a2, a3, a4, a5]) hd hl hm rfl hM hw hdep (fun _ e => e ▸ kk)
theorem invn_x {y : MethodName} {cc' : ByteArray} {nL' : Nat} {ret' : Option FieldType} {dep' n idx : Nat} {as : List AV} {ro : Option AV} {F : Hp → Prop} (hd : decode cc pc = .ok (.invokestatic idx, 3)) (hl : (own, idx, y) ∈ nestW) (hm : MOKs y cc' nL' ret' n) (hn : as.length = n) (hM : AMp K y cc' nL' ret' dep' as h ro F) (hw : stw st ≤ 8) (hdep : dep' + 1 ≤ dep) (kk : ∀ hf, F hf → AW K X own cc nL ret dep (pc + 3) ls (ro.toList ++ st) hf) : AW K X own cc nL ret dep pc ls (as.reverse ++ st) h := by
  intro p e R s m args below meth c H locs lsA C Wx q
  obtain ⟨hx, hb, hre, hml, hown, hts, hlk, g1, g2, g3, g4, hD, hA, hK, hS⟩ := id C
  have hln : va_Nw (.methodLinkNest own idx y "ThreeHundred") s := hS.1.2.2.2.2.2.2.2 _ hl
  obtain ⟨⟨m1, m2, m3, m4, m5⟩, m6⟩ := hm
  refine run_x C Wx q (va_runSN (As := as.map (cv K.2.2.1)) (rest := st.map (cv K.2.2.1)) (ws := .code y cc' nL' ret' :: wsL_law) (rm := rmx dep') (host := "ThreeHundred") (bytes := cc') (maxL := nL') (ret := ret') (mc := 0) (ms := 0) ⟨hx, hb, hml, hown, hts⟩ hM ⟨⟨⟨rfl, rfl, ?_, ?_, pay_in hts (fun w hw => ?_), List.mem_cons_self⟩, hts _ m1, hts _ m2, m3, fun sig e => ?_, va_Nw.use rfl hln⟩, hts _ m6, trivial⟩ ⟨Px.blind, fun U hU hW => ⟨rfl, Px_call C Wx hU hW⟩⟩ rfl (by simpa using hn) q.1 ?_ (lv_room (by rw [stw_cv]; exact hw)) hd ⟨g3, g4⟩) kk
  · show dep' + 1 ≤ R.frames
    omega
  · show 8 + (nL' + 11) + 64 * dep' ≤ R.locals
    omega
  · rcases List.mem_cons.mp hw with rfl | hw
    · exact ws_in _ m1
    · exact ws_in _ hw
  · rw [e] at m4
    exact (Option.some.inj m4).symm
  · simp [List.map_append, List.map_reverse]
theorem AW.iret {ro : Option AV} {F : Hp → Prop} {v : Int} (hd : decode cc pc = .ok (.ireturn, 1)) (h1 : ro = some (vI v)) (h2 : F h) (hr : ret = some .int := by rfl) : AW K (XP K ro F) own cc nL ret dep pc ls (vI v :: []) h := by
  subst h1; subst hr
  intro p e R s m args below meth c H locs lsA C Wx q
  obtain ⟨hx, hb, hre, hml, hown, hts, hlk, -⟩ := id C
  exact W.iret hx hb hre (fun t ht hW => ⟨rfl, ⟨h, h2, by rw [ht]; exact Wx.1, Wx.2.2⟩, Wx.2.1.F ht⟩) (fun l hl => Wx.2.1.2.2 l hl) hd (hlocks := hlk)
theorem AW.zret {ro : Option AV} {F : Hp → Prop} {v : Int} (hd : decode cc pc = .ok (.ireturn, 1)) (h1 : ro = some (vI v)) (h2 : F h) (hz : v = 0 ∨ v = 1) (hr : ret = some .boolean := by rfl) : AW K (XP K ro F) own cc nL ret dep pc ls (vI v :: []) h := by
  subst h1; subst hr
  intro p e R s m args below meth c H locs lsA C Wx q
  obtain ⟨hx, hb, hre, hml, hown, hts, hlk, -⟩ := id C
  exact W.zret (v := Int32.ofInt v) (ty := .boolean) hx hb hre (by rcases hz with rfl | rfl <;> rfl) (fun t ht hW => ⟨rfl, ⟨h, h2, by rw [ht]; exact Wx.1, Wx.2.2⟩, Wx.2.1.F ht⟩) (fun l hl => Wx.2.1.2.2 l hl) hd (hlocks := hlk)
theorem AW.bret {ro : Option AV} {F : Hp → Prop} {v : Int} (hd : decode cc pc = .ok (.ireturn, 1)) (h1 : ro = some (vI v)) (h2 : F h) (hz : inB v) (hr : ret = some .byte := by rfl) : AW K (XP K ro F) own cc nL ret dep pc ls (vI v :: []) h := by
  subst h1; subst hr
  intro p e R s m args below meth c H locs lsA C Wx q
  obtain ⟨hx, hb, hre, hml, hown, hts, hlk, -⟩ := id C
  have hnar : narrow .byte (.int (Int32.ofInt v)) = .int (Int32.ofInt v) := by
    show Value.int (Int32.ofInt v).toInt8.toInt32 = _
    congr 1
    apply Int32.toInt_inj.mp
    rw [Int8.toInt_toInt32, Int32.toInt_toInt8, i32of (by unfold inB at hz; unfold inI; omega)]
    unfold inB at hz
    exact Int.bmod_eq_of_le (by omega) (by omega)
  exact W.zret (v := Int32.ofInt v) (ty := .byte) hx hb hre hnar (fun t ht hW => ⟨rfl, ⟨h, h2, by rw [ht]; exact Wx.1, Wx.2.2⟩, Wx.2.1.F ht⟩) (fun l hl => Wx.2.1.2.2 l hl) hd (hlocks := hlk)
theorem AW.lret {ro : Option AV} {F : Hp → Prop} {v : Int} (hd : decode cc pc = .ok (.lreturn, 1)) (h1 : ro = some (vL v)) (h2 : F h) (hr : ret = some .long := by rfl) : AW K (XP K ro F) own cc nL ret dep pc ls (vL v :: []) h := by
  subst h1; subst hr
  intro p e R s m args below meth c H locs lsA C Wx q
  obtain ⟨hx, hb, hre, hml, hown, hts, hlk, -⟩ := id C
  exact W.lret hx hb hre (fun t ht hW => ⟨rfl, ⟨h, h2, by rw [ht]; exact Wx.1, Wx.2.2⟩, Wx.2.1.F ht⟩) (fun l hl => Wx.2.1.2.2 l hl) hd (hlocks := hlk)
theorem AW.vret {ro : Option AV} {F : Hp → Prop} (hd : decode cc pc = .ok (.return_, 1)) (h1 : ro = none) (h2 : F h) (hr : ret = none := by rfl) : AW K (XP K ro F) own cc nL ret dep pc ls [] h := by
  subst h1; subst hr
  intro p e R s m args below meth c H locs lsA C Wx q
  obtain ⟨hx, hb, hre, hml, hown, hts, hlk, -⟩ := id C
  exact W.vret hx hb hre (fun t ht hW => ⟨rfl, ⟨h, h2, by rw [ht]; exact Wx.1, Wx.2.2⟩, Wx.2.1.F ht⟩) (fun l hl => Wx.2.1.2.2 l hl) hd (hlocks := hlk)
theorem AW.aret {ro : Option AV} {F : Hp → Prop} {v : Nat} {ty : FieldType} (hd : decode cc pc = .ok (.areturn, 1)) (h1 : ro = some (vR v)) (h2 : F h) (hr : ret = some (.array ty) := by rfl) : AW K (XP K ro F) own cc nL ret dep pc ls (vR v :: []) h := by
  subst h1; subst hr
  intro p e R s m args below meth c H locs lsA C Wx q
  obtain ⟨hx, hb, hre, hml, hown, hts, hlk, -⟩ := id C
  exact W.aret (v := .ref (K.2.2.1 v)) hx hb hre (Or.inr ⟨_, rfl⟩) (Or.inr ⟨_, rfl⟩) (fun t ht hW => ⟨rfl, ⟨h, h2, by rw [ht]; exact Wx.1, Wx.2.2⟩, Wx.2.1.F ht⟩) (fun l hl => Wx.2.1.2.2 l hl) hd (hlocks := hlk)
theorem AW.dup_x1 {va vb : AV} (hd : decode cc pc = .ok (.dup_x1, 1)) (ha : nol (some va) = true) (hb : nol (some vb) = true) (k : AW K X own cc nL ret dep pc' ls (va :: vb :: va :: st) h) (hp : pc + 1 = pc' := by rfl) : AW K X own cc nL ret dep pc ls (va :: vb :: st) h := by
  subst hp
  intro p e R s m args below meth c H locs lsA C Wx q
  have w := k p e R s m args below meth c H locs lsA C Wx q
  simp only [List.map] at w ⊢
  exact lv_dup_x1 C.1 C.2.1 hd (cat_nol ha) (cat_nol hb) w
theorem AW.dup2 {va vb : AV} (hd : decode cc pc = .ok (.dup2, 1)) (ha : nol (some va) = true) (hb : nol (some vb) = true) (k : AW K X own cc nL ret dep pc' ls (va :: vb :: va :: vb :: st) h) (hp : pc + 1 = pc' := by rfl) : AW K X own cc nL ret dep pc ls (va :: vb :: st) h := by
  subst hp
  intro p e R s m args below meth c H locs lsA C Wx q
  have w := k p e R s m args below meth c H locs lsA C Wx q
  simp only [List.map] at w ⊢
  exact lv_dup2_11 C.1 C.2.1 hd (cat_nol ha) (cat_nol hb) w
theorem AW.aaldB {k n : Nat} {tg : List Nat} {i : Int} {t : Nat} (hd : decode cc pc = .ok (.aaload, 1)) (hk : LY[k]? = some (4, n, tg)) (h0 : 0 ≤ i) (h1 : i < n) (hn : n ≤ 2147483647) (ht : tg.getD i.toNat 0 = t) (kk : AW K X own cc nL ret dep pc' ls (vR t :: st) h) (hp : pc + 1 = pc' := by rfl) : AW K X own cc nL ret dep pc ls (vI i :: vR k :: st) h := by
  subst hp
  subst ht
  intro p e R s m args below meth c H locs lsA C Wx q
  obtain ⟨hx, hb, hr, hml, hown, hts, hlk, g1, g2, g3, g4, hD, hA, hK, hS⟩ := id C
  have w := kk p e R s m args below meth c H locs lsA C Wx q
  simp only [List.map, cv] at w ⊢
  obtain ⟨v1, v2⟩ := vin h0 h1 hn
  have hlt : (Int32.ofInt i).toNatClampNeg < n := Nat.not_le.mp fun q => v1 (Or.inr q)
  refine W.aald (v := .ref (K.2.2.1 (tg.getD i.toNat 0))) (ty := .array .byte) hx hb (Wx.1 k _ (wld_at hk)) ((hK.2 3 _ rfl).1 n (fun j => va_rf (some (K.2.2.1 (tg.getD j 0))))) rfl (fun q => by cases q) (by show ¬ (_ ∨ (arrV _ _ _).slots.size ≤ _); rw [arrV_size]; exact v1) (by show (arrV _ _ _).slots[_]? = _; rw [arrV_read _ _ hlt, v2]; rfl) rfl rfl hd w
theorem AW.aaldL {k n : Nat} {tg : List Nat} {i : Int} {t : Nat} (hd : decode cc pc = .ok (.aaload, 1)) (hk : LY[k]? = some (5, n, tg)) (h0 : 0 ≤ i) (h1 : i < n) (hn : n ≤ 2147483647) (ht : tg.getD i.toNat 0 = t) (kk : AW K X own cc nL ret dep pc' ls (vR t :: st) h) (hp : pc + 1 = pc' := by rfl) : AW K X own cc nL ret dep pc ls (vI i :: vR k :: st) h := by
  subst hp
  subst ht
  intro p e R s m args below meth c H locs lsA C Wx q
  obtain ⟨hx, hb, hr, hml, hown, hts, hlk, g1, g2, g3, g4, hD, hA, hK, hS⟩ := id C
  have w := kk p e R s m args below meth c H locs lsA C Wx q
  simp only [List.map, cv] at w ⊢
  obtain ⟨v1, v2⟩ := vin h0 h1 hn
  have hlt : (Int32.ofInt i).toNatClampNeg < n := Nat.not_le.mp fun q => v1 (Or.inr q)
  refine W.aald (v := .ref (K.2.2.1 (tg.getD i.toNat 0))) (ty := .array .long) hx hb (Wx.1 k _ (wld_at hk)) ((hK.2 4 _ rfl).1 n (fun j => va_rf (some (K.2.2.1 (tg.getD j 0))))) rfl (fun q => by cases q) (by show ¬ (_ ∨ (arrV _ _ _).slots.size ≤ _); rw [arrV_size]; exact v1) (by show (arrV _ _ _).slots[_]? = _; rw [arrV_read _ _ hlt, v2]; rfl) rfl rfl hd w
theorem AW.lenI {k n : Nat} {tl : List Nat} (hd : decode cc pc = .ok (.arraylength, 1)) (hk : LY[k]? = some (1, n, tl)) (kk : AW K X own cc nL ret dep pc' ls (vI (n : Int) :: st) h) (hp : pc + 1 = pc' := by rfl) : AW K X own cc nL ret dep pc ls (vR k :: st) h := by
  subst hp
  intro p e R s m args below meth c H locs lsA C Wx q
  obtain ⟨hx, hb, hr, hml, hown, hts, hlk, g1, g2, g3, g4, hD, hA, hK, hS⟩ := id C
  have w := kk p e R s m args below meth c H locs lsA C Wx q
  simp only [List.map, cv] at w ⊢
  exact va_alen (D := K.2.1) (cl := vwCl) (ws := wld K h) hx hb hK Wx.1 k 0 (wld_at hk) rfl rfl hd w
/-- the statics -/
theorem AW.above {idx : Nat} (hd : decode cc pc = .ok (.getstatic idx, 3)) (hl : Cond.fieldLink own idx RX0 "ABOVE" "[I" ∈ wsL_law) (kk : AW K X own cc nL ret dep pc' ls (vR 1000 :: st) h) (hp : pc + 3 = pc' := by rfl) : AW K X own cc nL ret dep pc ls st h := by
  subst hp
  intro p e R s m args below meth c H locs lsA C Wx q
  obtain ⟨hx, hb, hr, hml, hown, hts, hlk, g1, g2, g3, g4, hD, hA, hK, hS, -⟩ := id C
  exact va_gets hx hb hS.1 Wx.2.1 hown (hts _ hl) (fun _ z => z) hd (kk p e R s m args below meth c H locs lsA C Wx q)
theorem AW.ownS {idx : Nat} (hd : decode cc pc = .ok (.getstatic idx, 3)) (hl : Cond.fieldLink own idx RX0 "OWN" "[I" ∈ wsL_law) (kk : AW K X own cc nL ret dep pc' ls (vR 1001 :: st) h) (hp : pc + 3 = pc' := by rfl) : AW K X own cc nL ret dep pc ls st h := by
  subst hp
  intro p e R s m args below meth c H locs lsA C Wx q
  obtain ⟨hx, hb, hr, hml, hown, hts, hlk, g1, g2, g3, g4, hD, hA, hK, hS, -⟩ := id C
  exact va_gets hx hb hS.2.2.1 Wx.2.1 hown (hts _ hl) (fun _ z => z) hd (kk p e R s m args below meth c H locs lsA C Wx q)
theorem AW.compact {idx : Nat} (hd : decode cc pc = .ok (.getstatic idx, 3)) (hl : Cond.fieldLink own idx "java/lang/String" "COMPACT_STRINGS" "Z" ∈ wsL_law) (kk : AW K X own cc nL ret dep pc' ls (vI 1 :: st) h) (hp : pc + 3 = pc' := by rfl) : AW K X own cc nL ret dep pc ls st h := by
  subst hp
  intro p e R s m args below meth c H locs lsA C Wx q
  obtain ⟨hx, hb, hr, hml, hown, hts, hlk, g1, g2, g3, g4, hD, hA, hK, hS, -⟩ := id C
  exact va_gets hx hb hS.2.2.2.2.2.2.1 Wx.2.1 hown (hts _ hl) (fun _ z => z) hd (kk p e R s m args below meth c H locs lsA C Wx q)
theorem AW.ialdA {i v : Int} (hd : decode cc pc = .ok (.iaload, 1)) (h0 : 0 ≤ i) (h1 : i < 8) (hv : tAbove.getD i.toNat 0 = v) (kk : AW K X own cc nL ret dep pc' ls (vI v :: st) h) (hp : pc + 1 = pc' := by rfl) : AW K X own cc nL ret dep pc ls (vI i :: vR 1000 :: st) h := by
  subst hp
  subst hv
  intro p e R s m args below meth c H locs lsA C Wx q
  obtain ⟨hx, hb, hr, hml, hown, hts, hlk, g1, g2, g3, g4, hD, hA, hK, hS, -⟩ := id C
  obtain ⟨v1, v2⟩ := vin (n := 8) h0 h1 (by decide)
  exact va_ti hx hb hS.2.1 Wx.2.1 v1 (by rw [v2]; rfl) hd (kk p e R s m args below meth c H locs lsA C Wx q)
theorem AW.ialdO {i v : Int} (hd : decode cc pc = .ok (.iaload, 1)) (h0 : 0 ≤ i) (h1 : i < 32) (hv : tOwn.getD i.toNat 0 = v) (kk : AW K X own cc nL ret dep pc' ls (vI v :: st) h) (hp : pc + 1 = pc' := by rfl) : AW K X own cc nL ret dep pc ls (vI i :: vR 1001 :: st) h := by
  subst hp
  subst hv
  intro p e R s m args below meth c H locs lsA C Wx q
  obtain ⟨hx, hb, hr, hml, hown, hts, hlk, g1, g2, g3, g4, hD, hA, hK, hS, -⟩ := id C
  obtain ⟨v1, v2⟩ := vin (n := 32) h0 h1 (by decide)
  exact va_ti hx hb hS.2.2.2.1 Wx.2.1 v1 (by rw [v2]; rfl) hd (kk p e R s m args below meth c H locs lsA C Wx q)
/-- the text of names -/
theorem AW.ldcN {idx : Nat} (hd : decode cc pc = .ok (.ldc 92, 2)) (ho : own = RX5) (kk : AW K X own cc nL ret dep pc' ls (vR 1002 :: st) h) (hp : pc + 2 = pc' := by rfl) : AW K X own cc nL ret dep pc ls st h := by
  subst hp
  subst ho
  intro p e R s m args below meth c H locs lsA C Wx q
  obtain ⟨hx, hb, hr, hml, hown, hts, hlk, g1, g2, g3, g4, hD, hA, hK, hS, -⟩ := id C
  exact va_ldcS hx hb hown hS.2.2.2.2.1 hd (kk p e R s m args below meth c H locs lsA C Wx q)
theorem AW.strV {idx : Nat} (hd : decode cc pc = .ok (.getfield idx, 3)) (hl : Cond.fieldLink own idx "java/lang/String" "value" "[B" ∈ wsL_law) (kk : AW K X own cc nL ret dep pc' ls (vR 1003 :: st) h) (hp : pc + 3 = pc' := by rfl) : AW K X own cc nL ret dep pc ls (vR 1002 :: st) h := by
  subst hp
  intro p e R s m args below meth c H locs lsA C Wx q
  obtain ⟨hx, hb, hr, hml, hown, hts, hlk, g1, g2, g3, g4, hD, hA, hK, hS, -⟩ := id C
  exact vk_getf hx hb (hS.2.2.2.2.2.1.1 0 (by decide)).2.2.1 Wx.2.1 hown (hts _ hl) (fun _ z => z) hd (kk p e R s m args below meth c H locs lsA C Wx q)
theorem AW.strC {idx : Nat} (hd : decode cc pc = .ok (.getfield idx, 3)) (hl : Cond.fieldLink own idx "java/lang/String" "coder" "B" ∈ wsL_law) (kk : AW K X own cc nL ret dep pc' ls (vI 0 :: st) h) (hp : pc + 3 = pc' := by rfl) : AW K X own cc nL ret dep pc ls (vR 1002 :: st) h := by
  subst hp
  intro p e R s m args below meth c H locs lsA C Wx q
  obtain ⟨hx, hb, hr, hml, hown, hts, hlk, g1, g2, g3, g4, hD, hA, hK, hS, -⟩ := id C
  exact vk_getf hx hb (hS.2.2.2.2.2.1.1 0 (by decide)).2.1 Wx.2.1 hown (hts _ hl) (fun _ z => z) hd (kk p e R s m args below meth c H locs lsA C Wx q)
theorem AW.lenN (hd : decode cc pc = .ok (.arraylength, 1)) (kk : AW K X own cc nL ret dep pc' ls (vI 9 :: st) h) (hp : pc + 1 = pc' := by rfl) : AW K X own cc nL ret dep pc ls (vR 1003 :: st) h := by
  subst hp
  intro p e R s m args below meth c H locs lsA C Wx q
  obtain ⟨hx, hb, hr, hml, hown, hts, hlk, g1, g2, g3, g4, hD, hA, hK, hS, -⟩ := id C
  exact va_tlen hx hb (hS.2.2.2.2.2.1.1 0 (by decide)).2.2.2 Wx.2.1 rfl hd (kk p e R s m args below meth c H locs lsA C Wx q)
theorem AW.baldN {i v : Int} (hd : decode cc pc = .ok (.baload, 1)) (h0 : 0 ≤ i) (h1 : i < 9) (hv : tNames.getD i.toNat 0 = Int32.ofInt v) (kk : AW K X own cc nL ret dep pc' ls (vI v :: st) h) (hp : pc + 1 = pc' := by rfl) : AW K X own cc nL ret dep pc ls (vI i :: vR 1003 :: st) h := by
  subst hp
  intro p e R s m args below meth c H locs lsA C Wx q
  obtain ⟨hx, hb, hr, hml, hown, hts, hlk, g1, g2, g3, g4, hD, hA, hK, hS, -⟩ := id C
  obtain ⟨v1, v2⟩ := vin (n := 9) h0 h1 (by decide)
  exact va_tb hx hb (hS.2.2.2.2.2.1.1 0 (by decide)).2.2.2 Wx.2.1 v1 (by rw [v2]; show Value.int (tNames.getD i.toNat 0) = _; rw [hv]; rfl) hd (kk p e R s m args below meth c H locs lsA C Wx q)
/-- a call on the text -/
theorem inv_s {y : MethodName} {cc' : ByteArray} {nL' : Nat} {ret' : Option FieldType} {dep' n idx : Nat} {as : List AV} {ro : Option AV} {F : Hp → Prop} (hd : decode cc pc = .ok (.invokevirtual idx, 3)) (hl : Cond.methodLink own idx y ∈ wsL_law) (hm : MOKv y cc' nL' ret' n) (hc : y.cls = "java/lang/String") (hn : as.length = n) (hM : AMp K y cc' nL' ret' dep' (vR 1002 :: as) h ro F) (hw : stw st ≤ 8) (hdep : dep' + 1 ≤ dep) (kk : ∀ hf, F hf → AW K X own cc nL ret dep (pc + 3) ls (ro.toList ++ st) hf) : AW K X own cc nL ret dep pc ls (as.reverse ++ vR 1002 :: st) h := by
  intro p e R s m args below meth c H locs lsA C Wx q
  obtain ⟨hx, hb, hre, hml, hown, hts, hlk, g1, g2, g3, g4, hD, hA, hK, hS, -⟩ := id C
  refine run_x C Wx q (va_runV (As := as.map (cv K.2.2.1)) (rest := st.map (cv K.2.2.1)) (b := K.2.2.1 1002) ⟨hx, hb, hml, hown, hts⟩ hM ⟨callB_x hts hl hm.1 g1 g2 hdep, hts _ hm.2.1, hts _ hm.2.2⟩ ⟨Px.blind, ?_, fun U hU hW => ⟨by simp [cv], Px_call C Wx hU hW⟩⟩ rfl (by simpa using hn) q.1 ?_ (lv_room (by rw [stw_cv]; exact hw)) hd ⟨g3, g4⟩) kk
  · rw [hc]
    exact vk_recv (i := 0) hS.2.2.2.2.2.1 (by decide) Wx.2.1
  · simp [List.map_append, List.map_reverse, cv]
/-- a part of a row of ints, copied -/
def hcpy (h : Hp) (k0 k1 sp dp n : Nat) : Hp := fun a b => if a = k1 ∧ dp ≤ b ∧ b < dp + n then h k0 (sp + (b - dp)) else h a b
theorem hcpy_other {h : Hp} {k0 k1 sp dp n : Nat} : ∀ a, a ≠ k1 → hcpy h k0 k1 sp dp n a = h a := fun a ha => funext fun b => by simp [hcpy, ha]
theorem HOK.cpy {h : Hp} (H : HOK h) {k0 k1 sp dp n t n0 n1 : Nat} {l0 l1 : List Nat} (h0 : LY[k0]? = some (t, n0, l0)) (h1 : LY[k1]? = some (t, n1, l1)) (ht : t = 1 ∨ t = 2 ∨ t = 3) : HOK (hcpy h k0 k1 sp dp n) := by
  intro a ka ha b
  unfold hcpy
  split
  · rename_i z
    obtain ⟨rfl, -⟩ := z
    rw [h1] at ha
    cases ha
    have q := H k0 _ h0 (sp + (b - dp))
    rcases ht with rfl | rfl | rfl <;> exact q
  · exact H a ka ha b
theorem sys_words : (Cond.native arraycopyName ∈ wsL_law) ∧ (Cond.static arraycopyName ∈ wsL_law) ∧ (Cond.initialized "java/lang/System" ∈ wsL_law) := ⟨xxCond_native_arraycopyName, st_arraycopyName, ii__java_lang_System_⟩
theorem AW.copyI {idx k0 k1 n0 n1 : Nat} {l0 l1 : List Nat} {sp dp n : Int} (hd : decode cc pc = .ok (.invokestatic idx, 3)) (hl : Cond.methodLink own idx arraycopyName ∈ wsL_law) (h0 : LY[k0]? = some (1, n0, l0)) (h1 : LY[k1]? = some (1, n1, l1)) (b1 : 0 ≤ sp) (b2 : 0 ≤ dp) (b3 : 0 ≤ n) (b4 : sp + n ≤ n0) (b5 : dp + n ≤ n1) (b6 : n0 ≤ 2147483647) (b7 : n1 ≤ 2147483647) (kk : AW K X own cc nL ret dep pc' ls st (hcpy h k0 k1 sp.toNat dp.toNat n.toNat)) (hw : stw st ≤ 4 := by exact Nat.le_of_ble_eq_true rfl) (hdep : 1 ≤ dep := by omega) (hp : pc + 3 = pc' := by rfl) : AW K X own cc nL ret dep pc ls (vI n :: vI dp :: vR k1 :: vI sp :: vR k0 :: st) h := by
  subst hp
  intro p e R s m args below meth c H locs lsA C Wx q
  obtain ⟨hx, hb, hre, hml, hown, hts, hlk, g1, g2, g3, g4, hD, hA, hK, hS⟩ := id C
  simp only [List.map, cv]
  have e' : ∀ z : Int, 0 ≤ z → z ≤ 2147483647 → ¬ Int32.ofInt z < 0 ∧ (Int32.ofInt z).toNatClampNeg = z.toNat := fun z z0 z1 => by
    have hi : inI z := by unfold inI; omega
    refine ⟨fun y => ?_, by show (Int32.ofInt z).toInt.toNat = z.toNat; rw [i32of hi]⟩
    have := (i32lt hi inI_0).mp y
    omega
  obtain ⟨c1, d1⟩ := e' sp b1 (by omega)
  obtain ⟨c2, d2⟩ := e' dp b2 (by omega)
  obtain ⟨c3, d3⟩ := e' n b3 (by omega)
  refine va_copyi (D := K.2.1) (cl := vwCl) (ws := wld K h) (ty := .int) hx hb (by rw [hml]; exact q.1.symm) hown (hts _ hl) (hts _ sys_words.1) (hts _ sys_words.2.1) (hts _ sys_words.2.2) hK Wx.1 (wld_D hD (X.1 s) hA h) Wx.2.1 k0 k1 0 0 (wld_at h0) (wld_at h1) rfl rfl rfl c1 c2 c3 (by rw [d1, d3]; omega) (by rw [d2, d3]; omega) (fun _ _ => rfl) (by omega) ?_ hd (fun H1 locs1 hP1 _ hS1 => ?_)
  · have e2 : nativeFrameWords "java/lang/System" "arraycopy" 5 ≤ 40 := by decide +kernel
    have e3 := stw_cv (ad := K.2.2.1) st
    omega
  · rw [d1, d2, d3] at hP1
    rw [wld_set (K := K) (h' := hcpy h k0 k1 sp.toNat dp.toNat n.toNat) (e := Sum.inl (K.2.2.2 0, n1, Sum.inl (va_cpy (fun j => Int32.ofInt (h k0 j)) (fun j => Int32.ofInt (h k1 j)) sp.toNat dp.toNat n.toNat))) h1 ?_ hcpy_other] at hP1
    · exact kk p e R s m args below meth c H1 locs1 lsA C ⟨hP1, hS1, Wx.2.2.cpy h0 h1 (Or.inl rfl)⟩ q
    · show (Sum.inl _ : va_E) = Sum.inl _
      congr 4
      funext b
      unfold va_cpy hcpy
      split
      · rename_i z
        rw [if_pos ⟨rfl, z⟩]
      · rename_i z
        rw [if_neg (fun y => z y.2)]
end AWC

theorem fX11_10 : FLD RX11 10 11 0 := ⟨RX11, TX11, 11, rfl, by decide, lkX11_10, rfl, inlX11⟩
theorem fX11_19 : FLD RX11 19 11 1 := ⟨RX11, TX11, 11, rfl, by decide, lkX11_19, rfl, inlX11⟩
theorem fX11_26 : FLD RX11 26 11 2 := ⟨RX11, TX11, 11, rfl, by decide, lkX11_26, rfl, inlX11⟩
theorem fX11_35 : FLD RX11 35 11 3 := ⟨RX11, TX11, 11, rfl, by decide, lkX11_35, rfl, inlX11⟩
theorem fX11_44 : FLD RX11 44 11 4 := ⟨RX11, TX11, 11, rfl, by decide, lkX11_44, rfl, inlX11⟩
theorem fX11_51 : FLD RX11 51 11 5 := ⟨RX11, TX11, 11, rfl, by decide, lkX11_51, rfl, inlX11⟩
theorem fX11_60 : FLD RX11 60 11 6 := ⟨RX11, TX11, 11, rfl, by decide, lkX11_60, rfl, inlX11⟩
theorem fX11_67 : FLD RX11 67 11 7 := ⟨RX11, TX11, 11, rfl, by decide, lkX11_67, rfl, inlX11⟩
theorem fX11_74 : FLD RX11 74 11 8 := ⟨RX11, TX11, 11, rfl, by decide, lkX11_74, rfl, inlX11⟩
theorem fX11_81 : FLD RX11 81 11 9 := ⟨RX11, TX11, 11, rfl, by decide, lkX11_81, rfl, inlX11⟩
theorem fX11_85 : FLD RX11 85 11 10 := ⟨RX11, TX11, 11, rfl, by decide, lkX11_85, rfl, inlX11⟩
theorem pX11_85 : FLP RX11 85 11 10 .int := ⟨RX11, TX11, 11, tyX11, rfl, by decide, lkX11_85, rfl, inlX11, tyX11_ok, nmX11, rfl, by decide +kernel⟩
theorem fX6_9 : FLD RX6 9 6 0 := ⟨RX6, TX6, 5, rfl, by decide, lkX6_9, rfl, inlX6⟩
theorem fX6_15 : FLD RX6 15 6 1 := ⟨RX6, TX6, 5, rfl, by decide, lkX6_15, rfl, inlX6⟩
theorem fX6_18 : FLD RX6 18 6 2 := ⟨RX6, TX6, 5, rfl, by decide, lkX6_18, rfl, inlX6⟩
theorem fX6_21 : FLD RX6 21 6 3 := ⟨RX6, TX6, 5, rfl, by decide, lkX6_21, rfl, inlX6⟩
theorem fX9_9 : FLD RX9 9 9 0 := ⟨RX9, TX9, 4, rfl, by decide, lkX9_9, rfl, inlX9⟩
theorem fX9_15 : FLD RX9 15 9 1 := ⟨RX9, TX9, 4, rfl, by decide, lkX9_15, rfl, inlX9⟩
theorem fX9_18 : FLD RX9 18 9 2 := ⟨RX9, TX9, 4, rfl, by decide, lkX9_18, rfl, inlX9⟩
theorem fX9_21 : FLD RX9 21 9 3 := ⟨RX9, TX9, 4, rfl, by decide, lkX9_21, rfl, inlX9⟩
theorem pX9_21 : FLP RX9 21 9 3 .int := ⟨RX9, TX9, 4, tyX9, rfl, by decide, lkX9_21, rfl, inlX9, tyX9_ok, nmX9, rfl, by decide +kernel⟩
theorem fX4_9 : FLD RX4 9 4 0 := ⟨RX4, TX4, 2, rfl, by decide, lkX4_9, rfl, inlX4⟩
theorem fX7_9 : FLD RX7 9 7 2 := ⟨RX7, TX7, 11, rfl, by decide, lkX7_9, rfl, inlX7⟩
theorem fX7_15 : FLD RX7 15 7 3 := ⟨RX7, TX7, 11, rfl, by decide, lkX7_15, rfl, inlX7⟩
theorem fX7_18 : FLD RX7 18 7 4 := ⟨RX7, TX7, 11, rfl, by decide, lkX7_18, rfl, inlX7⟩
theorem fX7_21 : FLD RX7 21 7 5 := ⟨RX7, TX7, 11, rfl, by decide, lkX7_21, rfl, inlX7⟩
theorem fX7_24 : FLD RX7 24 7 6 := ⟨RX7, TX7, 11, rfl, by decide, lkX7_24, rfl, inlX7⟩
theorem fX7_27 : FLD RX7 27 7 7 := ⟨RX7, TX7, 11, rfl, by decide, lkX7_27, rfl, inlX7⟩
theorem fX7_30 : FLD RX7 30 7 8 := ⟨RX7, TX7, 11, rfl, by decide, lkX7_30, rfl, inlX7⟩
theorem fX7_33 : FLD RX7 33 7 9 := ⟨RX7, TX7, 11, rfl, by decide, lkX7_33, rfl, inlX7⟩
theorem fX7_36 : FLD RX7 36 7 0 := ⟨RX7, TX7, 11, rfl, by decide, lkX7_36, rfl, inlX7⟩
theorem fX7_40 : FLD RX7 40 7 1 := ⟨RX7, TX7, 11, rfl, by decide, lkX7_40, rfl, inlX7⟩
theorem fX3_9 : FLD RX3 9 3 2 := ⟨RX3, TX3, 8, rfl, by decide, lkX3_9, rfl, inlX3⟩
theorem fX3_15 : FLD RX3 15 3 3 := ⟨RX3, TX3, 8, rfl, by decide, lkX3_15, rfl, inlX3⟩
theorem fX3_18 : FLD RX3 18 3 4 := ⟨RX3, TX3, 8, rfl, by decide, lkX3_18, rfl, inlX3⟩
theorem fX3_21 : FLD RX3 21 3 5 := ⟨RX3, TX3, 8, rfl, by decide, lkX3_21, rfl, inlX3⟩
theorem fX3_24 : FLD RX3 24 3 0 := ⟨RX3, TX3, 8, rfl, by decide, lkX3_24, rfl, inlX3⟩
theorem fX3_28 : FLD RX3 28 3 1 := ⟨RX3, TX3, 8, rfl, by decide, lkX3_28, rfl, inlX3⟩
theorem fX5_9 : FLD RX5 9 5 0 := ⟨RX5, TX5, 10, rfl, by decide, lkX5_9, rfl, inlX5⟩
theorem fX5_15 : FLD RX5 15 5 1 := ⟨RX5, TX5, 10, rfl, by decide, lkX5_15, rfl, inlX5⟩
theorem fX5_21 : FLD RX5 21 5 2 := ⟨RX5, TX5, 10, rfl, by decide, lkX5_21, rfl, inlX5⟩
theorem fX5_24 : FLD RX5 24 5 3 := ⟨RX5, TX5, 10, rfl, by decide, lkX5_24, rfl, inlX5⟩
theorem fX5_27 : FLD RX5 27 5 6 := ⟨RX5, TX5, 10, rfl, by decide, lkX5_27, rfl, inlX5⟩
theorem pX5_27 : FLP RX5 27 5 6 (.array .byte) := ⟨RX5, TX5, 10, tyX5, rfl, by decide, lkX5_27, rfl, inlX5, tyX5_ok, nmX5, rfl, by decide +kernel⟩
theorem fX2_12 : FLD RX2 12 2 1 := ⟨RX2, TX2, 5, rfl, by decide, lkX2_12, rfl, inlX2⟩
theorem fX2_18 : FLD RX2 18 2 2 := ⟨RX2, TX2, 5, rfl, by decide, lkX2_18, rfl, inlX2⟩
theorem fX2_22 : FLD RX2 22 2 3 := ⟨RX2, TX2, 5, rfl, by decide, lkX2_22, rfl, inlX2⟩
theorem fX2_26 : FLD RX2 26 2 4 := ⟨RX2, TX2, 5, rfl, by decide, lkX2_26, rfl, inlX2⟩
theorem fX2_29 : FLD RX2 29 2 0 := ⟨RX2, TX2, 5, rfl, by decide, lkX2_29, rfl, inlX2⟩
theorem fX1_9 : FLD RX1 9 1 0 := ⟨RX1, TX1, 3, rfl, by decide, lkX1_9, rfl, inlX1⟩
theorem fX1_15 : FLD RX1 15 1 1 := ⟨RX1, TX1, 3, rfl, by decide, lkX1_15, rfl, inlX1⟩
theorem fX0_9 : FLD RX0 9 0 0 := ⟨RX0, TX0, 4, rfl, by decide, lkX0_9, rfl, inlX0⟩
theorem fX0_15 : FLD RX0 15 0 1 := ⟨RX0, TX0, 4, rfl, by decide, lkX0_15, rfl, inlX0⟩
theorem fX8_9 : FLD RX8 9 8 0 := ⟨RX8, TX8, 4, rfl, by decide, lkX8_9, rfl, inlX8⟩
theorem fX8_15 : FLD RX8 15 8 1 := ⟨RX8, TX8, 4, rfl, by decide, lkX8_15, rfl, inlX8⟩
theorem fX8_18 : FLD RX8 18 8 2 := ⟨RX8, TX8, 4, rfl, by decide, lkX8_18, rfl, inlX8⟩
theorem fX8_23 : FLD RX8 23 8 3 := ⟨RX8, TX8, 4, rfl, by decide, lkX8_23, rfl, inlX8⟩
theorem fX12_7 : FLD RX12 7 12 0 := ⟨RX12, TX12, 59, rfl, by decide, lkX12_7, rfl, inlX12⟩
theorem fX12_13 : FLD RX12 13 12 1 := ⟨RX12, TX12, 59, rfl, by decide, lkX12_13, rfl, inlX12⟩
theorem fX12_16 : FLD RX12 16 12 2 := ⟨RX12, TX12, 59, rfl, by decide, lkX12_16, rfl, inlX12⟩
theorem fX12_19 : FLD RX12 19 12 3 := ⟨RX12, TX12, 59, rfl, by decide, lkX12_19, rfl, inlX12⟩
theorem fX12_22 : FLD RX12 22 12 4 := ⟨RX12, TX12, 59, rfl, by decide, lkX12_22, rfl, inlX12⟩
theorem fX12_25 : FLD RX12 25 12 5 := ⟨RX12, TX12, 59, rfl, by decide, lkX12_25, rfl, inlX12⟩
theorem fX12_28 : FLD RX12 28 12 6 := ⟨RX12, TX12, 59, rfl, by decide, lkX12_28, rfl, inlX12⟩
theorem fX12_31 : FLD RX12 31 12 7 := ⟨RX12, TX12, 59, rfl, by decide, lkX12_31, rfl, inlX12⟩
theorem fX12_34 : FLD RX12 34 12 8 := ⟨RX12, TX12, 59, rfl, by decide, lkX12_34, rfl, inlX12⟩
theorem fX12_37 : FLD RX12 37 12 9 := ⟨RX12, TX12, 59, rfl, by decide, lkX12_37, rfl, inlX12⟩
theorem fX12_40 : FLD RX12 40 12 10 := ⟨RX12, TX12, 59, rfl, by decide, lkX12_40, rfl, inlX12⟩
theorem fX12_43 : FLD RX12 43 12 11 := ⟨RX12, TX12, 59, rfl, by decide, lkX12_43, rfl, inlX12⟩
theorem fX12_46 : FLD RX12 46 12 12 := ⟨RX12, TX12, 59, rfl, by decide, lkX12_46, rfl, inlX12⟩
theorem fX12_49 : FLD RX12 49 12 17 := ⟨RX12, TX12, 59, rfl, by decide, lkX12_49, rfl, inlX12⟩
theorem pX12_49 : FLP RX12 49 12 17 .int := ⟨RX12, TX12, 59, tyX12, rfl, by decide, lkX12_49, rfl, inlX12, tyX12_ok, nmX12, rfl, by decide +kernel⟩
theorem fX12_53 : FLD RX12 53 12 18 := ⟨RX12, TX12, 59, rfl, by decide, lkX12_53, rfl, inlX12⟩
theorem fX12_56 : FLD RX12 56 12 19 := ⟨RX12, TX12, 59, rfl, by decide, lkX12_56, rfl, inlX12⟩
theorem fX12_59 : FLD RX12 59 12 20 := ⟨RX12, TX12, 59, rfl, by decide, lkX12_59, rfl, inlX12⟩
theorem fX12_62 : FLD RX12 62 12 21 := ⟨RX12, TX12, 59, rfl, by decide, lkX12_62, rfl, inlX12⟩
theorem fX12_65 : FLD RX12 65 12 24 := ⟨RX12, TX12, 59, rfl, by decide, lkX12_65, rfl, inlX12⟩
theorem fX12_68 : FLD RX12 68 12 25 := ⟨RX12, TX12, 59, rfl, by decide, lkX12_68, rfl, inlX12⟩
theorem fX12_71 : FLD RX12 71 12 26 := ⟨RX12, TX12, 59, rfl, by decide, lkX12_71, rfl, inlX12⟩
theorem fX12_74 : FLD RX12 74 12 27 := ⟨RX12, TX12, 59, rfl, by decide, lkX12_74, rfl, inlX12⟩
theorem fX12_77 : FLD RX12 77 12 28 := ⟨RX12, TX12, 59, rfl, by decide, lkX12_77, rfl, inlX12⟩
theorem fX12_80 : FLD RX12 80 12 37 := ⟨RX12, TX12, 59, rfl, by decide, lkX12_80, rfl, inlX12⟩
theorem fX12_83 : FLD RX12 83 12 46 := ⟨RX12, TX12, 59, rfl, by decide, lkX12_83, rfl, inlX12⟩
theorem fX12_86 : FLD RX12 86 12 47 := ⟨RX12, TX12, 59, rfl, by decide, lkX12_86, rfl, inlX12⟩
theorem fX12_89 : FLD RX12 89 12 48 := ⟨RX12, TX12, 59, rfl, by decide, lkX12_89, rfl, inlX12⟩
theorem fX12_92 : FLD RX12 92 12 50 := ⟨RX12, TX12, 59, rfl, by decide, lkX12_92, rfl, inlX12⟩
theorem fX12_95 : FLD RX12 95 12 51 := ⟨RX12, TX12, 59, rfl, by decide, lkX12_95, rfl, inlX12⟩
theorem fX12_98 : FLD RX12 98 12 54 := ⟨RX12, TX12, 59, rfl, by decide, lkX12_98, rfl, inlX12⟩
theorem fX12_101 : FLD RX12 101 12 55 := ⟨RX12, TX12, 59, rfl, by decide, lkX12_101, rfl, inlX12⟩
theorem fX12_104 : FLD RX12 104 12 56 := ⟨RX12, TX12, 59, rfl, by decide, lkX12_104, rfl, inlX12⟩
theorem fX12_107 : FLD RX12 107 12 57 := ⟨RX12, TX12, 59, rfl, by decide, lkX12_107, rfl, inlX12⟩
theorem fX12_111 : FLD RX12 111 12 58 := ⟨RX12, TX12, 59, rfl, by decide, lkX12_111, rfl, inlX12⟩
theorem fX12_114 : FLD RX12 114 12 14 := ⟨RX12, TX12, 59, rfl, by decide, lkX12_114, rfl, inlX12⟩
theorem pX12_114 : FLP RX12 114 12 14 .int := ⟨RX12, TX12, 59, tyX12, rfl, by decide, lkX12_114, rfl, inlX12, tyX12_ok, nmX12, rfl, by decide +kernel⟩
theorem fX6_24 : FLD RX6 24 6 4 := ⟨RX6, TX6, 5, rfl, by decide, lkX6_24, rfl, inlX6⟩
theorem pX6_24 : FLP RX6 24 6 4 .int := ⟨RX6, TX6, 5, tyX6, rfl, by decide, lkX6_24, rfl, inlX6, tyX6_ok, nmX6, rfl, by decide +kernel⟩
theorem fX12_122 : FLD RX12 122 12 13 := ⟨RX12, TX12, 59, rfl, by decide, lkX12_122, rfl, inlX12⟩
theorem pX12_122 : FLP RX12 122 12 13 .int := ⟨RX12, TX12, 59, tyX12, rfl, by decide, lkX12_122, rfl, inlX12, tyX12_ok, nmX12, rfl, by decide +kernel⟩
theorem fX4_15 : FLD RX4 15 4 1 := ⟨RX4, TX4, 2, rfl, by decide, lkX4_15, rfl, inlX4⟩
theorem pX4_15 : FLP RX4 15 4 1 .int := ⟨RX4, TX4, 2, tyX4, rfl, by decide, lkX4_15, rfl, inlX4, tyX4_ok, nmX4, rfl, by decide +kernel⟩
theorem fX12_125 : FLD RX12 125 12 15 := ⟨RX12, TX12, 59, rfl, by decide, lkX12_125, rfl, inlX12⟩
theorem pX12_125 : FLP RX12 125 12 15 .int := ⟨RX12, TX12, 59, tyX12, rfl, by decide, lkX12_125, rfl, inlX12, tyX12_ok, nmX12, rfl, by decide +kernel⟩
theorem fX7_44 : FLD RX7 44 7 10 := ⟨RX7, TX7, 11, rfl, by decide, lkX7_44, rfl, inlX7⟩
theorem pX7_44 : FLP RX7 44 7 10 .int := ⟨RX7, TX7, 11, tyX7, rfl, by decide, lkX7_44, rfl, inlX7, tyX7_ok, nmX7, rfl, by decide +kernel⟩
theorem fX12_128 : FLD RX12 128 12 16 := ⟨RX12, TX12, 59, rfl, by decide, lkX12_128, rfl, inlX12⟩
theorem pX12_128 : FLP RX12 128 12 16 .int := ⟨RX12, TX12, 59, tyX12, rfl, by decide, lkX12_128, rfl, inlX12, tyX12_ok, nmX12, rfl, by decide +kernel⟩
theorem fX11_115 : FLD RX11 115 8 0 := ⟨RX8, TX8, 4, rfl, by decide, lkX11_115, rfl, inlX8⟩
theorem fX11_125 : FLD RX11 125 8 2 := ⟨RX8, TX8, 4, rfl, by decide, lkX11_125, rfl, inlX8⟩
theorem fX11_128 : FLD RX11 128 8 3 := ⟨RX8, TX8, 4, rfl, by decide, lkX11_128, rfl, inlX8⟩
theorem fX11_137 : FLD RX11 137 7 2 := ⟨RX7, TX7, 11, rfl, by decide, lkX11_137, rfl, inlX7⟩
theorem fX11_139 : FLD RX11 139 7 3 := ⟨RX7, TX7, 11, rfl, by decide, lkX11_139, rfl, inlX7⟩
theorem fX11_141 : FLD RX11 141 7 4 := ⟨RX7, TX7, 11, rfl, by decide, lkX11_141, rfl, inlX7⟩
theorem fX11_144 : FLD RX11 144 7 5 := ⟨RX7, TX7, 11, rfl, by decide, lkX11_144, rfl, inlX7⟩
theorem fX11_147 : FLD RX11 147 7 6 := ⟨RX7, TX7, 11, rfl, by decide, lkX11_147, rfl, inlX7⟩
theorem fX7_70 : FLD RX7 70 4 0 := ⟨RX4, TX4, 2, rfl, by decide, lkX7_70, rfl, inlX4⟩
theorem fX7_65 : FLD RX7 65 9 1 := ⟨RX9, TX9, 4, rfl, by decide, lkX7_65, rfl, inlX9⟩
theorem fX3_32 : FLD RX3 32 7 5 := ⟨RX7, TX7, 11, rfl, by decide, lkX3_32, rfl, inlX7⟩
theorem fX3_37 : FLD RX3 37 7 6 := ⟨RX7, TX7, 11, rfl, by decide, lkX3_37, rfl, inlX7⟩
theorem fX3_40 : FLD RX3 40 9 1 := ⟨RX9, TX9, 4, rfl, by decide, lkX3_40, rfl, inlX9⟩
theorem fX3_49 : FLD RX3 49 3 6 := ⟨RX3, TX3, 8, rfl, by decide, lkX3_49, rfl, inlX3⟩
theorem pX3_49 : FLP RX3 49 3 6 .int := ⟨RX3, TX3, 8, tyX3, rfl, by decide, lkX3_49, rfl, inlX3, tyX3_ok, nmX3, rfl, by decide +kernel⟩
theorem fX3_56 : FLD RX3 56 3 7 := ⟨RX3, TX3, 8, rfl, by decide, lkX3_56, rfl, inlX3⟩
theorem pX3_56 : FLP RX3 56 3 7 .int := ⟨RX3, TX3, 8, tyX3, rfl, by decide, lkX3_56, rfl, inlX3, tyX3_ok, nmX3, rfl, by decide +kernel⟩
theorem fX12_171 : FLD RX12 171 12 22 := ⟨RX12, TX12, 59, rfl, by decide, lkX12_171, rfl, inlX12⟩
theorem pX12_171 : FLP RX12 171 12 22 .int := ⟨RX12, TX12, 59, tyX12, rfl, by decide, lkX12_171, rfl, inlX12, tyX12_ok, nmX12, rfl, by decide +kernel⟩
theorem fX12_174 : FLD RX12 174 12 23 := ⟨RX12, TX12, 59, rfl, by decide, lkX12_174, rfl, inlX12⟩
theorem pX12_174 : FLP RX12 174 12 23 .int := ⟨RX12, TX12, 59, tyX12, rfl, by decide, lkX12_174, rfl, inlX12, tyX12_ok, nmX12, rfl, by decide +kernel⟩
theorem fX5_30 : FLD RX5 30 5 4 := ⟨RX5, TX5, 10, rfl, by decide, lkX5_30, rfl, inlX5⟩
theorem pX5_30 : FLP RX5 30 5 4 .int := ⟨RX5, TX5, 10, tyX5, rfl, by decide, lkX5_30, rfl, inlX5, tyX5_ok, nmX5, rfl, by decide +kernel⟩
theorem fX12_181 : FLD RX12 181 12 29 := ⟨RX12, TX12, 59, rfl, by decide, lkX12_181, rfl, inlX12⟩
theorem pX12_181 : FLP RX12 181 12 29 .int := ⟨RX12, TX12, 59, tyX12, rfl, by decide, lkX12_181, rfl, inlX12, tyX12_ok, nmX12, rfl, by decide +kernel⟩
theorem fX5_34 : FLD RX5 34 5 5 := ⟨RX5, TX5, 10, rfl, by decide, lkX5_34, rfl, inlX5⟩
theorem pX5_34 : FLP RX5 34 5 5 .int := ⟨RX5, TX5, 10, tyX5, rfl, by decide, lkX5_34, rfl, inlX5, tyX5_ok, nmX5, rfl, by decide +kernel⟩
theorem fX5_41 : FLD RX5 41 5 9 := ⟨RX5, TX5, 10, rfl, by decide, lkX5_41, rfl, inlX5⟩
theorem pX5_41 : FLP RX5 41 5 9 .int := ⟨RX5, TX5, 10, tyX5, rfl, by decide, lkX5_41, rfl, inlX5, tyX5_ok, nmX5, rfl, by decide +kernel⟩
theorem fX5_50 : FLD RX5 50 5 7 := ⟨RX5, TX5, 10, rfl, by decide, lkX5_50, rfl, inlX5⟩
theorem pX5_50 : FLP RX5 50 5 7 .int := ⟨RX5, TX5, 10, tyX5, rfl, by decide, lkX5_50, rfl, inlX5, tyX5_ok, nmX5, rfl, by decide +kernel⟩
theorem fX5_53 : FLD RX5 53 5 8 := ⟨RX5, TX5, 10, rfl, by decide, lkX5_53, rfl, inlX5⟩
theorem pX5_53 : FLP RX5 53 5 8 .int := ⟨RX5, TX5, 10, tyX5, rfl, by decide, lkX5_53, rfl, inlX5, tyX5_ok, nmX5, rfl, by decide +kernel⟩
theorem fX12_223 : FLD RX12 223 12 30 := ⟨RX12, TX12, 59, rfl, by decide, lkX12_223, rfl, inlX12⟩
theorem pX12_223 : FLP RX12 223 12 30 .int := ⟨RX12, TX12, 59, tyX12, rfl, by decide, lkX12_223, rfl, inlX12, tyX12_ok, nmX12, rfl, by decide +kernel⟩
theorem fX12_200 : FLD RX12 200 12 31 := ⟨RX12, TX12, 59, rfl, by decide, lkX12_200, rfl, inlX12⟩
theorem pX12_200 : FLP RX12 200 12 31 .int := ⟨RX12, TX12, 59, tyX12, rfl, by decide, lkX12_200, rfl, inlX12, tyX12_ok, nmX12, rfl, by decide +kernel⟩
theorem fX12_184 : FLD RX12 184 12 32 := ⟨RX12, TX12, 59, rfl, by decide, lkX12_184, rfl, inlX12⟩
theorem pX12_184 : FLP RX12 184 12 32 .int := ⟨RX12, TX12, 59, tyX12, rfl, by decide, lkX12_184, rfl, inlX12, tyX12_ok, nmX12, rfl, by decide +kernel⟩
theorem fX12_187 : FLD RX12 187 12 33 := ⟨RX12, TX12, 59, rfl, by decide, lkX12_187, rfl, inlX12⟩
theorem pX12_187 : FLP RX12 187 12 33 .int := ⟨RX12, TX12, 59, tyX12, rfl, by decide, lkX12_187, rfl, inlX12, tyX12_ok, nmX12, rfl, by decide +kernel⟩
theorem fX12_197 : FLD RX12 197 12 34 := ⟨RX12, TX12, 59, rfl, by decide, lkX12_197, rfl, inlX12⟩
theorem pX12_197 : FLP RX12 197 12 34 .int := ⟨RX12, TX12, 59, tyX12, rfl, by decide, lkX12_197, rfl, inlX12, tyX12_ok, nmX12, rfl, by decide +kernel⟩
theorem fX12_209 : FLD RX12 209 12 35 := ⟨RX12, TX12, 59, rfl, by decide, lkX12_209, rfl, inlX12⟩
theorem pX12_209 : FLP RX12 209 12 35 .int := ⟨RX12, TX12, 59, tyX12, rfl, by decide, lkX12_209, rfl, inlX12, tyX12_ok, nmX12, rfl, by decide +kernel⟩
theorem fX12_219 : FLD RX12 219 12 36 := ⟨RX12, TX12, 59, rfl, by decide, lkX12_219, rfl, inlX12⟩
theorem pX12_219 : FLP RX12 219 12 36 .boolean := ⟨RX12, TX12, 59, tyX12, rfl, by decide, lkX12_219, rfl, inlX12, tyX12_ok, nmX12, rfl, by decide +kernel⟩
theorem fX11_174 : FLD RX11 174 5 5 := ⟨RX5, TX5, 10, rfl, by decide, lkX11_174, rfl, inlX5⟩
theorem pX11_174 : FLP RX11 174 5 5 .int := ⟨RX5, TX5, 10, tyX5, rfl, by decide, lkX11_174, rfl, inlX5, tyX5_ok, nmX5, rfl, by decide +kernel⟩
theorem fX11_177 : FLD RX11 177 9 2 := ⟨RX9, TX9, 4, rfl, by decide, lkX11_177, rfl, inlX9⟩
theorem fX11_180 : FLD RX11 180 7 10 := ⟨RX7, TX7, 11, rfl, by decide, lkX11_180, rfl, inlX7⟩
theorem pX11_180 : FLP RX11 180 7 10 .int := ⟨RX7, TX7, 11, tyX7, rfl, by decide, lkX11_180, rfl, inlX7, tyX7_ok, nmX7, rfl, by decide +kernel⟩
theorem fX11_181 : FLD RX11 181 6 4 := ⟨RX6, TX6, 5, rfl, by decide, lkX11_181, rfl, inlX6⟩
theorem pX11_181 : FLP RX11 181 6 4 .int := ⟨RX6, TX6, 5, tyX6, rfl, by decide, lkX11_181, rfl, inlX6, tyX6_ok, nmX6, rfl, by decide +kernel⟩
theorem fX11_191 : FLD RX11 191 9 1 := ⟨RX9, TX9, 4, rfl, by decide, lkX11_191, rfl, inlX9⟩
theorem fX11_198 : FLD RX11 198 5 0 := ⟨RX5, TX5, 10, rfl, by decide, lkX11_198, rfl, inlX5⟩
theorem fX11_204 : FLD RX11 204 6 2 := ⟨RX6, TX6, 5, rfl, by decide, lkX11_204, rfl, inlX6⟩
theorem fX11_207 : FLD RX11 207 6 3 := ⟨RX6, TX6, 5, rfl, by decide, lkX11_207, rfl, inlX6⟩
theorem fX11_213 : FLD RX11 213 9 0 := ⟨RX9, TX9, 4, rfl, by decide, lkX11_213, rfl, inlX9⟩
theorem fX11_219 : FLD RX11 219 4 0 := ⟨RX4, TX4, 2, rfl, by decide, lkX11_219, rfl, inlX4⟩
theorem fX12_241 : FLD RX12 241 12 38 := ⟨RX12, TX12, 59, rfl, by decide, lkX12_241, rfl, inlX12⟩
theorem pX12_241 : FLP RX12 241 12 38 .int := ⟨RX12, TX12, 59, tyX12, rfl, by decide, lkX12_241, rfl, inlX12, tyX12_ok, nmX12, rfl, by decide +kernel⟩
theorem fX11_236 : FLD RX11 236 2 3 := ⟨RX2, TX2, 5, rfl, by decide, lkX11_236, rfl, inlX2⟩
theorem fX2_55 : FLD RX2 55 7 10 := ⟨RX7, TX7, 11, rfl, by decide, lkX2_55, rfl, inlX7⟩
theorem pX2_55 : FLP RX2 55 7 10 .int := ⟨RX7, TX7, 11, tyX7, rfl, by decide, lkX2_55, rfl, inlX7, tyX7_ok, nmX7, rfl, by decide +kernel⟩
theorem fX2_59 : FLD RX2 59 7 7 := ⟨RX7, TX7, 11, rfl, by decide, lkX2_59, rfl, inlX7⟩
theorem fX2_33 : FLD RX2 33 7 2 := ⟨RX7, TX7, 11, rfl, by decide, lkX2_33, rfl, inlX7⟩
theorem fX12_259 : FLD RX12 259 12 39 := ⟨RX12, TX12, 59, rfl, by decide, lkX12_259, rfl, inlX12⟩
theorem pX12_259 : FLP RX12 259 12 39 .int := ⟨RX12, TX12, 59, tyX12, rfl, by decide, lkX12_259, rfl, inlX12, tyX12_ok, nmX12, rfl, by decide +kernel⟩
theorem fX12_262 : FLD RX12 262 12 40 := ⟨RX12, TX12, 59, rfl, by decide, lkX12_262, rfl, inlX12⟩
theorem pX12_262 : FLP RX12 262 12 40 .int := ⟨RX12, TX12, 59, tyX12, rfl, by decide, lkX12_262, rfl, inlX12, tyX12_ok, nmX12, rfl, by decide +kernel⟩
theorem fX2_83 : FLD RX2 83 7 8 := ⟨RX7, TX7, 11, rfl, by decide, lkX2_83, rfl, inlX7⟩
theorem fX10_9 : FLD RX10 9 10 0 := ⟨RX10, TX10, 4, rfl, by decide, lkX10_9, rfl, inlX10⟩
theorem pX10_9 : FLP RX10 9 10 0 .long := ⟨RX10, TX10, 4, tyX10, rfl, by decide, lkX10_9, rfl, inlX10, tyX10_ok, nmX10, rfl, by decide +kernel⟩
theorem fX10_15 : FLD RX10 15 10 1 := ⟨RX10, TX10, 4, rfl, by decide, lkX10_15, rfl, inlX10⟩
theorem pX10_15 : FLP RX10 15 10 1 .long := ⟨RX10, TX10, 4, tyX10, rfl, by decide, lkX10_15, rfl, inlX10, tyX10_ok, nmX10, rfl, by decide +kernel⟩
theorem fX10_18 : FLD RX10 18 10 2 := ⟨RX10, TX10, 4, rfl, by decide, lkX10_18, rfl, inlX10⟩
theorem pX10_18 : FLP RX10 18 10 2 .int := ⟨RX10, TX10, 4, tyX10, rfl, by decide, lkX10_18, rfl, inlX10, tyX10_ok, nmX10, rfl, by decide +kernel⟩
theorem fX10_22 : FLD RX10 22 10 3 := ⟨RX10, TX10, 4, rfl, by decide, lkX10_22, rfl, inlX10⟩
theorem pX10_22 : FLP RX10 22 10 3 .int := ⟨RX10, TX10, 4, tyX10, rfl, by decide, lkX10_22, rfl, inlX10, tyX10_ok, nmX10, rfl, by decide +kernel⟩
theorem fX2_100 : FLD RX2 100 7 3 := ⟨RX7, TX7, 11, rfl, by decide, lkX2_100, rfl, inlX7⟩
theorem fX2_103 : FLD RX2 103 7 4 := ⟨RX7, TX7, 11, rfl, by decide, lkX2_103, rfl, inlX7⟩
theorem fX12_283 : FLD RX12 283 12 42 := ⟨RX12, TX12, 59, rfl, by decide, lkX12_283, rfl, inlX12⟩
theorem pX12_283 : FLP RX12 283 12 42 .int := ⟨RX12, TX12, 59, tyX12, rfl, by decide, lkX12_283, rfl, inlX12, tyX12_ok, nmX12, rfl, by decide +kernel⟩
theorem fX12_289 : FLD RX12 289 12 44 := ⟨RX12, TX12, 59, rfl, by decide, lkX12_289, rfl, inlX12⟩
theorem pX12_289 : FLP RX12 289 12 44 .int := ⟨RX12, TX12, 59, tyX12, rfl, by decide, lkX12_289, rfl, inlX12, tyX12_ok, nmX12, rfl, by decide +kernel⟩
theorem fX12_280 : FLD RX12 280 12 41 := ⟨RX12, TX12, 59, rfl, by decide, lkX12_280, rfl, inlX12⟩
theorem pX12_280 : FLP RX12 280 12 41 .int := ⟨RX12, TX12, 59, tyX12, rfl, by decide, lkX12_280, rfl, inlX12, tyX12_ok, nmX12, rfl, by decide +kernel⟩
theorem fX12_286 : FLD RX12 286 12 43 := ⟨RX12, TX12, 59, rfl, by decide, lkX12_286, rfl, inlX12⟩
theorem pX12_286 : FLP RX12 286 12 43 .int := ⟨RX12, TX12, 59, tyX12, rfl, by decide, lkX12_286, rfl, inlX12, tyX12_ok, nmX12, rfl, by decide +kernel⟩
theorem fX12_292 : FLD RX12 292 12 45 := ⟨RX12, TX12, 59, rfl, by decide, lkX12_292, rfl, inlX12⟩
theorem pX12_292 : FLP RX12 292 12 45 .int := ⟨RX12, TX12, 59, tyX12, rfl, by decide, lkX12_292, rfl, inlX12, tyX12_ok, nmX12, rfl, by decide +kernel⟩
theorem fX1_18 : FLD RX1 18 1 2 := ⟨RX1, TX1, 3, rfl, by decide, lkX1_18, rfl, inlX1⟩
theorem pX1_18 : FLP RX1 18 1 2 .int := ⟨RX1, TX1, 3, tyX1, rfl, by decide, lkX1_18, rfl, inlX1, tyX1_ok, nmX1, rfl, by decide +kernel⟩
theorem fX12_322 : FLD RX12 322 12 49 := ⟨RX12, TX12, 59, rfl, by decide, lkX12_322, rfl, inlX12⟩
theorem pX12_322 : FLP RX12 322 12 49 .int := ⟨RX12, TX12, 59, tyX12, rfl, by decide, lkX12_322, rfl, inlX12, tyX12_ok, nmX12, rfl, by decide +kernel⟩
theorem fX11_267 : FLD RX11 267 1 2 := ⟨RX1, TX1, 3, rfl, by decide, lkX11_267, rfl, inlX1⟩
theorem pX11_267 : FLP RX11 267 1 2 .int := ⟨RX1, TX1, 3, tyX1, rfl, by decide, lkX11_267, rfl, inlX1, tyX1_ok, nmX1, rfl, by decide +kernel⟩
theorem fX11_271 : FLD RX11 271 6 0 := ⟨RX6, TX6, 5, rfl, by decide, lkX11_271, rfl, inlX6⟩
theorem fX7_79 : FLD RX7 79 9 0 := ⟨RX9, TX9, 4, rfl, by decide, lkX7_79, rfl, inlX9⟩
theorem fX0_18 : FLD RX0 18 0 2 := ⟨RX0, TX0, 4, rfl, by decide, lkX0_18, rfl, inlX0⟩
theorem pX0_18 : FLP RX0 18 0 2 .int := ⟨RX0, TX0, 4, tyX0, rfl, by decide, lkX0_18, rfl, inlX0, tyX0_ok, nmX0, rfl, by decide +kernel⟩
theorem fX12_339 : FLD RX12 339 12 52 := ⟨RX12, TX12, 59, rfl, by decide, lkX12_339, rfl, inlX12⟩
theorem pX12_339 : FLP RX12 339 12 52 .int := ⟨RX12, TX12, 59, tyX12, rfl, by decide, lkX12_339, rfl, inlX12, tyX12_ok, nmX12, rfl, by decide +kernel⟩
theorem fX11_298 : FLD RX11 298 0 3 := ⟨RX0, TX0, 4, rfl, by decide, lkX11_298, rfl, inlX0⟩
theorem pX11_298 : FLP RX11 298 0 3 .int := ⟨RX0, TX0, 4, tyX0, rfl, by decide, lkX11_298, rfl, inlX0, tyX0_ok, nmX0, rfl, by decide +kernel⟩
theorem fX0_40 : FLD RX0 40 0 3 := ⟨RX0, TX0, 4, rfl, by decide, lkX0_40, rfl, inlX0⟩
theorem pX0_40 : FLP RX0 40 0 3 .int := ⟨RX0, TX0, 4, tyX0, rfl, by decide, lkX0_40, rfl, inlX0, tyX0_ok, nmX0, rfl, by decide +kernel⟩
theorem fX12_342 : FLD RX12 342 12 53 := ⟨RX12, TX12, 59, rfl, by decide, lkX12_342, rfl, inlX12⟩
theorem pX12_342 : FLP RX12 342 12 53 .int := ⟨RX12, TX12, 59, tyX12, rfl, by decide, lkX12_342, rfl, inlX12, tyX12_ok, nmX12, rfl, by decide +kernel⟩
theorem fX11_305 : FLD RX11 305 0 1 := ⟨RX0, TX0, 4, rfl, by decide, lkX11_305, rfl, inlX0⟩
theorem fX11_336 : FLD RX11 336 8 1 := ⟨RX8, TX8, 4, rfl, by decide, lkX11_336, rfl, inlX8⟩
theorem fX11_339 : FLD RX11 339 0 0 := ⟨RX0, TX0, 4, rfl, by decide, lkX11_339, rfl, inlX0⟩
theorem fX11_346 : FLD RX11 346 9 3 := ⟨RX9, TX9, 4, rfl, by decide, lkX11_346, rfl, inlX9⟩
theorem pX11_346 : FLP RX11 346 9 3 .int := ⟨RX9, TX9, 4, tyX9, rfl, by decide, lkX11_346, rfl, inlX9, tyX9_ok, nmX9, rfl, by decide +kernel⟩
theorem fX11_347 : FLD RX11 347 4 1 := ⟨RX4, TX4, 2, rfl, by decide, lkX11_347, rfl, inlX4⟩
theorem pX11_347 : FLP RX11 347 4 1 .int := ⟨RX4, TX4, 2, tyX4, rfl, by decide, lkX11_347, rfl, inlX4, tyX4_ok, nmX4, rfl, by decide +kernel⟩
theorem fX11_348 : FLD RX11 348 5 4 := ⟨RX5, TX5, 10, rfl, by decide, lkX11_348, rfl, inlX5⟩
theorem pX11_348 : FLP RX11 348 5 4 .int := ⟨RX5, TX5, 10, tyX5, rfl, by decide, lkX11_348, rfl, inlX5, tyX5_ok, nmX5, rfl, by decide +kernel⟩
theorem fX11_351 : FLD RX11 351 3 6 := ⟨RX3, TX3, 8, rfl, by decide, lkX11_351, rfl, inlX3⟩
theorem pX11_351 : FLP RX11 351 3 6 .int := ⟨RX3, TX3, 8, tyX3, rfl, by decide, lkX11_351, rfl, inlX3, tyX3_ok, nmX3, rfl, by decide +kernel⟩
theorem fX11_354 : FLD RX11 354 0 2 := ⟨RX0, TX0, 4, rfl, by decide, lkX11_354, rfl, inlX0⟩
theorem pX11_354 : FLP RX11 354 0 2 .int := ⟨RX0, TX0, 4, tyX0, rfl, by decide, lkX11_354, rfl, inlX0, tyX0_ok, nmX0, rfl, by decide +kernel⟩
theorem mX11_runner : MOKv yX11_runner cX11_runner 3 (some .int) 2 := ⟨⟨cd_yX11_runner, ii_RX11, ⟨by decide +kernel, by decide +kernel⟩, by decide +kernel, by decide⟩, im_yX11_runner, sl_yX11_runner⟩
theorem mX11_within : MOKs yX11_within cX11_within 3 (some .boolean) 3 := ⟨⟨cd_yX11_within, ii_RX11, ⟨by decide +kernel, by decide +kernel⟩, by decide +kernel, by decide⟩, st_yX11_within⟩
theorem mX6_come : MOKv yX6_come cX6_come 5 (some .int) 4 := ⟨⟨cd_yX6_come, ii_RX6, ⟨by decide +kernel, by decide +kernel⟩, by decide +kernel, by decide⟩, im_yX6_come, sl_yX6_come⟩
theorem mX12_runner : MOKv yX12_runner cX12_runner 3 (some .int) 2 := ⟨⟨cd_yX12_runner, ii_RX12, ⟨by decide +kernel, by decide +kernel⟩, by decide +kernel, by decide⟩, im_yX12_runner, sl_yX12_runner⟩
theorem mX12_isIn : MOKs yX12_isIn cX12_isIn 3 (some .boolean) 3 := ⟨⟨cd_yX12_isIn, ii_RX12, ⟨by decide +kernel, by decide +kernel⟩, by decide +kernel, by decide⟩, st_yX12_isIn⟩
theorem mX11_shoe : MOKv yX11_shoe cX11_shoe 4 (some .int) 3 := ⟨⟨cd_yX11_shoe, ii_RX11, ⟨by decide +kernel, by decide +kernel⟩, by decide +kernel, by decide⟩, im_yX11_shoe, sl_yX11_shoe⟩
theorem mX9_come : MOKv yX9_come cX9_come 4 (some .int) 3 := ⟨⟨cd_yX9_come, ii_RX9, ⟨by decide +kernel, by decide +kernel⟩, by decide +kernel, by decide⟩, im_yX9_come, sl_yX9_come⟩
theorem mX12_shoe : MOKv yX12_shoe cX12_shoe 4 (some .int) 3 := ⟨⟨cd_yX12_shoe, ii_RX12, ⟨by decide +kernel, by decide +kernel⟩, by decide +kernel, by decide⟩, im_yX12_shoe, sl_yX12_shoe⟩
theorem mX11_course : MOKv yX11_course cX11_course 2 (some .int) 1 := ⟨⟨cd_yX11_course, ii_RX11, ⟨by decide +kernel, by decide +kernel⟩, by decide +kernel, by decide⟩, im_yX11_course, sl_yX11_course⟩
theorem mX4_come : MOKv yX4_come cX4_come 2 (some .int) 1 := ⟨⟨cd_yX4_come, ii_RX4, ⟨by decide +kernel, by decide +kernel⟩, by decide +kernel, by decide⟩, im_yX4_come, sl_yX4_come⟩
theorem mX12_course : MOKv yX12_course cX12_course 2 (some .int) 1 := ⟨⟨cd_yX12_course, ii_RX12, ⟨by decide +kernel, by decide +kernel⟩, by decide +kernel, by decide⟩, im_yX12_course, sl_yX12_course⟩
theorem mX11_ran : MOKv yX11_ran cX11_ran 4 (some .int) 3 := ⟨⟨cd_yX11_ran, ii_RX11, ⟨by decide +kernel, by decide +kernel⟩, by decide +kernel, by decide⟩, im_yX11_ran, sl_yX11_ran⟩
theorem mX11_isRun : MOKv yX11_isRun cX11_isRun 6 (some .boolean) 5 := ⟨⟨cd_yX11_isRun, ii_RX11, ⟨by decide +kernel, by decide +kernel⟩, by decide +kernel, by decide⟩, im_yX11_isRun, sl_yX11_isRun⟩
theorem mX6_has : MOKv yX6_has cX6_has 2 (some .boolean) 1 := ⟨⟨cd_yX6_has, ii_RX6, ⟨by decide +kernel, by decide +kernel⟩, by decide +kernel, by decide⟩, im_yX6_has, sl_yX6_has⟩
theorem mX4_has : MOKv yX4_has cX4_has 2 (some .boolean) 1 := ⟨⟨cd_yX4_has, ii_RX4, ⟨by decide +kernel, by decide +kernel⟩, by decide +kernel, by decide⟩, im_yX4_has, sl_yX4_has⟩
theorem mX9_has : MOKv yX9_has cX9_has 2 (some .boolean) 1 := ⟨⟨cd_yX9_has, ii_RX9, ⟨by decide +kernel, by decide +kernel⟩, by decide +kernel, by decide⟩, im_yX9_has, sl_yX9_has⟩
theorem mX7_come : MOKv yX7_come cX7_come 7 (some .int) 5 := ⟨⟨cd_yX7_come, ii_RX7, ⟨by decide +kernel, by decide +kernel⟩, by decide +kernel, by decide⟩, im_yX7_come, sl_yX7_come⟩
theorem mX7_enter : MOKv yX7_enter cX7_enter 5 none 3 := ⟨⟨cd_yX7_enter, ii_RX7, ⟨by decide +kernel, by decide +kernel⟩, by decide +kernel, by decide⟩, im_yX7_enter, sl_yX7_enter⟩
theorem mX7_isBehind : MOKv yX7_isBehind cX7_isBehind 4 (some .boolean) 3 := ⟨⟨cd_yX7_isBehind, ii_RX7, ⟨by decide +kernel, by decide +kernel⟩, by decide +kernel, by decide⟩, im_yX7_isBehind, sl_yX7_isBehind⟩
theorem mX12_ran : MOKv yX12_ran cX12_ran 4 (some .int) 3 := ⟨⟨cd_yX12_ran, ii_RX12, ⟨by decide +kernel, by decide +kernel⟩, by decide +kernel, by decide⟩, im_yX12_ran, sl_yX12_ran⟩
theorem mX12_mayRun : MOKv yX12_mayRun cX12_mayRun 6 (some .boolean) 5 := ⟨⟨cd_yX12_mayRun, ii_RX12, ⟨by decide +kernel, by decide +kernel⟩, by decide +kernel, by decide⟩, im_yX12_mayRun, sl_yX12_mayRun⟩
theorem mX12_isRunner : MOKv yX12_isRunner cX12_isRunner 2 (some .boolean) 1 := ⟨⟨cd_yX12_isRunner, ii_RX12, ⟨by decide +kernel, by decide +kernel⟩, by decide +kernel, by decide⟩, im_yX12_isRunner, sl_yX12_isRunner⟩
theorem mX12_isCourse : MOKv yX12_isCourse cX12_isCourse 2 (some .boolean) 1 := ⟨⟨cd_yX12_isCourse, ii_RX12, ⟨by decide +kernel, by decide +kernel⟩, by decide +kernel, by decide⟩, im_yX12_isCourse, sl_yX12_isCourse⟩
theorem mX12_isShoe : MOKv yX12_isShoe cX12_isShoe 2 (some .boolean) 1 := ⟨⟨cd_yX12_isShoe, ii_RX12, ⟨by decide +kernel, by decide +kernel⟩, by decide +kernel, by decide⟩, im_yX12_isShoe, sl_yX12_isShoe⟩
theorem mX12_comes : MOKv yX12_comes cX12_comes 6 none 5 := ⟨⟨cd_yX12_comes, ii_RX12, ⟨by decide +kernel, by decide +kernel⟩, by decide +kernel, by decide⟩, im_yX12_comes, sl_yX12_comes⟩
theorem mX11_runs : MOKv yX11_runs cX11_runs 5 (some .int) 3 := ⟨⟨cd_yX11_runs, ii_RX11, ⟨by decide +kernel, by decide +kernel⟩, by decide +kernel, by decide⟩, im_yX11_runs, sl_yX11_runs⟩
theorem mX8_has : MOKv yX8_has cX8_has 2 (some .boolean) 1 := ⟨⟨cd_yX8_has, ii_RX8, ⟨by decide +kernel, by decide +kernel⟩, by decide +kernel, by decide⟩, im_yX8_has, sl_yX8_has⟩
theorem mX11_runFromRow : MOKv yX11_runFromRow cX11_runFromRow 11 (some .boolean) 2 := ⟨⟨cd_yX11_runFromRow, ii_RX11, ⟨by decide +kernel, by decide +kernel⟩, by decide +kernel, by decide⟩, im_yX11_runFromRow, sl_yX11_runFromRow⟩
theorem mX12_runs : MOKv yX12_runs cX12_runs 12 (some .int) 3 := ⟨⟨cd_yX12_runs, ii_RX12, ⟨by decide +kernel, by decide +kernel⟩, by decide +kernel, by decide⟩, im_yX12_runs, sl_yX12_runs⟩
theorem mX12_isShelf : MOKs yX12_isShelf cX12_isShelf 1 (some .boolean) 1 := ⟨⟨cd_yX12_isShelf, ii_RX12, ⟨by decide +kernel, by decide +kernel⟩, by decide +kernel, by decide⟩, st_yX12_isShelf⟩
theorem mX11_of : MOKv yX11_of cX11_of 3 (some .int) 2 := ⟨⟨cd_yX11_of, ii_RX11, ⟨by decide +kernel, by decide +kernel⟩, by decide +kernel, by decide⟩, im_yX11_of, sl_yX11_of⟩
theorem mX7_has : MOKv yX7_has cX7_has 2 (some .boolean) 1 := ⟨⟨cd_yX7_has, ii_RX7, ⟨by decide +kernel, by decide +kernel⟩, by decide +kernel, by decide⟩, im_yX7_has, sl_yX7_has⟩
theorem mX7_level : MOKv yX7_level cX7_level 2 (some .int) 1 := ⟨⟨cd_yX7_level, ii_RX7, ⟨by decide +kernel, by decide +kernel⟩, by decide +kernel, by decide⟩, im_yX7_level, sl_yX7_level⟩
theorem mX11_cut : MOKs yX11_cut cX11_cut 4 (some .int) 2 := ⟨⟨cd_yX11_cut, ii_RX11, ⟨by decide +kernel, by decide +kernel⟩, by decide +kernel, by decide⟩, st_yX11_cut⟩
theorem mX7_oldMinutes : MOKv yX7_oldMinutes cX7_oldMinutes 3 (some .int) 1 := ⟨⟨cd_yX7_oldMinutes, ii_RX7, ⟨by decide +kernel, by decide +kernel⟩, by decide +kernel, by decide⟩, im_yX7_oldMinutes, sl_yX7_oldMinutes⟩
theorem mX7_isSeen : MOKv yX7_isSeen cX7_isSeen 2 (some .boolean) 1 := ⟨⟨cd_yX7_isSeen, ii_RX7, ⟨by decide +kernel, by decide +kernel⟩, by decide +kernel, by decide⟩, im_yX7_isSeen, sl_yX7_isSeen⟩
theorem mX7_whichInShoe : MOKv yX7_whichInShoe cX7_whichInShoe 5 (some .int) 1 := ⟨⟨cd_yX7_whichInShoe, ii_RX7, ⟨by decide +kernel, by decide +kernel⟩, by decide +kernel, by decide⟩, im_yX7_whichInShoe, sl_yX7_whichInShoe⟩
theorem mX12_of : MOKv yX12_of cX12_of 3 (some .int) 2 := ⟨⟨cd_yX12_of, ii_RX12, ⟨by decide +kernel, by decide +kernel⟩, by decide +kernel, by decide⟩, im_yX12_of, sl_yX12_of⟩
theorem mX12_isRun : MOKv yX12_isRun cX12_isRun 2 (some .boolean) 1 := ⟨⟨cd_yX12_isRun, ii_RX12, ⟨by decide +kernel, by decide +kernel⟩, by decide +kernel, by decide⟩, im_yX12_isRun, sl_yX12_isRun⟩
theorem mX12_level : MOKv yX12_level cX12_level 2 (some .int) 1 := ⟨⟨cd_yX12_level, ii_RX12, ⟨by decide +kernel, by decide +kernel⟩, by decide +kernel, by decide⟩, im_yX12_level, sl_yX12_level⟩
theorem mX12_oldMinutes : MOKv yX12_oldMinutes cX12_oldMinutes 2 (some .int) 1 := ⟨⟨cd_yX12_oldMinutes, ii_RX12, ⟨by decide +kernel, by decide +kernel⟩, by decide +kernel, by decide⟩, im_yX12_oldMinutes, sl_yX12_oldMinutes⟩
theorem mX12_whichOf : MOKv yX12_whichOf cX12_whichOf 4 (some .int) 1 := ⟨⟨cd_yX12_whichOf, ii_RX12, ⟨by decide +kernel, by decide +kernel⟩, by decide +kernel, by decide⟩, im_yX12_whichOf, sl_yX12_whichOf⟩
theorem mX12_isAhead : MOKv yX12_isAhead cX12_isAhead 3 (some .boolean) 2 := ⟨⟨cd_yX12_isAhead, ii_RX12, ⟨by decide +kernel, by decide +kernel⟩, by decide +kernel, by decide⟩, im_yX12_isAhead, sl_yX12_isAhead⟩
theorem mX11_mend : MOKv yX11_mend cX11_mend 5 (some .int) 3 := ⟨⟨cd_yX11_mend, ii_RX11, ⟨by decide +kernel, by decide +kernel⟩, by decide +kernel, by decide⟩, im_yX11_mend, sl_yX11_mend⟩
theorem mX11_isMending : MOKv yX11_isMending cX11_isMending 4 (some .boolean) 3 := ⟨⟨cd_yX11_isMending, ii_RX11, ⟨by decide +kernel, by decide +kernel⟩, by decide +kernel, by decide⟩, im_yX11_isMending, sl_yX11_isMending⟩
theorem mX3_current : MOKv yX3_current cX3_current 3 (some .int) 2 := ⟨⟨cd_yX3_current, ii_RX3, ⟨by decide +kernel, by decide +kernel⟩, by decide +kernel, by decide⟩, im_yX3_current, sl_yX3_current⟩
theorem mX3_table : MOKv yX3_table cX3_table 2 (some (.array .int)) 1 := ⟨⟨cd_yX3_table, ii_RX3, ⟨by decide +kernel, by decide +kernel⟩, by decide +kernel, by decide⟩, im_yX3_table, sl_yX3_table⟩
theorem mX3_come : MOKv yX3_come cX3_come 5 none 4 := ⟨⟨cd_yX3_come, ii_RX3, ⟨by decide +kernel, by decide +kernel⟩, by decide +kernel, by decide⟩, im_yX3_come, sl_yX3_come⟩
theorem mX3_forgetFirst : MOKv yX3_forgetFirst cX3_forgetFirst 1 none 0 := ⟨⟨cd_yX3_forgetFirst, ii_RX3, ⟨by decide +kernel, by decide +kernel⟩, by decide +kernel, by decide⟩, im_yX3_forgetFirst, sl_yX3_forgetFirst⟩
theorem mX12_mend : MOKv yX12_mend cX12_mend 6 (some .int) 3 := ⟨⟨cd_yX12_mend, ii_RX12, ⟨by decide +kernel, by decide +kernel⟩, by decide +kernel, by decide⟩, im_yX12_mend, sl_yX12_mend⟩
theorem mX12_valueOf : MOKv yX12_valueOf cX12_valueOf 3 (some .int) 2 := ⟨⟨cd_yX12_valueOf, ii_RX12, ⟨by decide +kernel, by decide +kernel⟩, by decide +kernel, by decide⟩, im_yX12_valueOf, sl_yX12_valueOf⟩
theorem mX12_becomes : MOKv yX12_becomes cX12_becomes 4 none 3 := ⟨⟨cd_yX12_becomes, ii_RX12, ⟨by decide +kernel, by decide +kernel⟩, by decide +kernel, by decide⟩, im_yX12_becomes, sl_yX12_becomes⟩
theorem mX11_feed : MOKv yX11_feed cX11_feed 3 (some .int) 2 := ⟨⟨cd_yX11_feed, ii_RX11, ⟨by decide +kernel, by decide +kernel⟩, by decide +kernel, by decide⟩, im_yX11_feed, sl_yX11_feed⟩
theorem mX5_take : MOKv yX5_take cX5_take 4 (some .int) 2 := ⟨⟨cd_yX5_take, ii_RX5, ⟨by decide +kernel, by decide +kernel⟩, by decide +kernel, by decide⟩, im_yX5_take, sl_yX5_take⟩
theorem mX12_feed : MOKv yX12_feed cX12_feed 4 (some .int) 2 := ⟨⟨cd_yX12_feed, ii_RX12, ⟨by decide +kernel, by decide +kernel⟩, by decide +kernel, by decide⟩, im_yX12_feed, sl_yX12_feed⟩
theorem mX11_law : MOKv yX11_law cX11_law 1 (some .int) 0 := ⟨⟨cd_yX11_law, ii_RX11, ⟨by decide +kernel, by decide +kernel⟩, by decide +kernel, by decide⟩, im_yX11_law, sl_yX11_law⟩
theorem mX5_come : MOKv yX5_come cX5_come 2 (some .int) 0 := ⟨⟨cd_yX5_come, ii_RX5, ⟨by decide +kernel, by decide +kernel⟩, by decide +kernel, by decide⟩, im_yX5_come, sl_yX5_come⟩
theorem mX5_read : MOKv yX5_read cX5_read 10 (some .int) 2 := ⟨⟨cd_yX5_read, ii_RX5, ⟨by decide +kernel, by decide +kernel⟩, by decide +kernel, by decide⟩, im_yX5_read, sl_yX5_read⟩
theorem mX5_either : MOKv yX5_either cX5_either 5 (some .int) 1 := ⟨⟨cd_yX5_either, ii_RX5, ⟨by decide +kernel, by decide +kernel⟩, by decide +kernel, by decide⟩, im_yX5_either, sl_yX5_either⟩
theorem mX5_passes : MOKv yX5_passes cX5_passes 2 (some .boolean) 1 := ⟨⟨cd_yX5_passes, ii_RX5, ⟨by decide +kernel, by decide +kernel⟩, by decide +kernel, by decide⟩, im_yX5_passes, sl_yX5_passes⟩
theorem mX5_next : MOKv yX5_next cX5_next 1 (some .int) 0 := ⟨⟨cd_yX5_next, ii_RX5, ⟨by decide +kernel, by decide +kernel⟩, by decide +kernel, by decide⟩, im_yX5_next, sl_yX5_next⟩
theorem mX5_both : MOKv yX5_both cX5_both 5 (some .int) 1 := ⟨⟨cd_yX5_both, ii_RX5, ⟨by decide +kernel, by decide +kernel⟩, by decide +kernel, by decide⟩, im_yX5_both, sl_yX5_both⟩
theorem mX5_compared : MOKv yX5_compared cX5_compared 3 (some .int) 1 := ⟨⟨cd_yX5_compared, ii_RX5, ⟨by decide +kernel, by decide +kernel⟩, by decide +kernel, by decide⟩, im_yX5_compared, sl_yX5_compared⟩
theorem mX5_product : MOKv yX5_product cX5_product 5 (some .int) 1 := ⟨⟨cd_yX5_product, ii_RX5, ⟨by decide +kernel, by decide +kernel⟩, by decide +kernel, by decide⟩, im_yX5_product, sl_yX5_product⟩
theorem mX5_single : MOKv yX5_single cX5_single 5 (some .int) 1 := ⟨⟨cd_yX5_single, ii_RX5, ⟨by decide +kernel, by decide +kernel⟩, by decide +kernel, by decide⟩, im_yX5_single, sl_yX5_single⟩
theorem mX5_isDigit : MOKs yX5_isDigit cX5_isDigit 1 (some .boolean) 1 := ⟨⟨cd_yX5_isDigit, ii_RX5, ⟨by decide +kernel, by decide +kernel⟩, by decide +kernel, by decide⟩, st_yX5_isDigit⟩
theorem mX5_number : MOKv yX5_number cX5_number 3 (some .int) 0 := ⟨⟨cd_yX5_number, ii_RX5, ⟨by decide +kernel, by decide +kernel⟩, by decide +kernel, by decide⟩, im_yX5_number, sl_yX5_number⟩
theorem mJ0_indexOf_0f7a4 : MOKv yJ0_indexOf_0f7a4 cJ0_indexOf_0f7a4 2 (some .int) 1 := ⟨⟨cd_yJ0_indexOf_0f7a4, ii_RJ0, ⟨by decide +kernel, by decide +kernel⟩, by decide +kernel, by decide⟩, im_yJ0_indexOf_0f7a4, sl_yJ0_indexOf_0f7a4⟩
theorem mJ0_indexOf_7cf53 : MOKv yJ0_indexOf_7cf53 cJ0_indexOf_7cf53 3 (some .int) 2 := ⟨⟨cd_yJ0_indexOf_7cf53, ii_RJ0, ⟨by decide +kernel, by decide +kernel⟩, by decide +kernel, by decide⟩, im_yJ0_indexOf_7cf53, sl_yJ0_indexOf_7cf53⟩
theorem mJ0_isLatin1_aae02 : MOKv yJ0_isLatin1_aae02 cJ0_isLatin1_aae02 1 (some .boolean) 0 := ⟨⟨cd_yJ0_isLatin1_aae02, ii_RJ0, ⟨by decide +kernel, by decide +kernel⟩, by decide +kernel, by decide⟩, im_yJ0_isLatin1_aae02, sl_yJ0_isLatin1_aae02⟩
theorem mJ0_length_8abf5 : MOKv yJ0_length_8abf5 cJ0_length_8abf5 1 (some .int) 0 := ⟨⟨cd_yJ0_length_8abf5, ii_RJ0, ⟨by decide +kernel, by decide +kernel⟩, by decide +kernel, by decide⟩, im_yJ0_length_8abf5, sl_yJ0_length_8abf5⟩
theorem mJ0_coder_7d493 : MOKv yJ0_coder_7d493 cJ0_coder_7d493 1 (some .byte) 0 := ⟨⟨cd_yJ0_coder_7d493, ii_RJ0, ⟨by decide +kernel, by decide +kernel⟩, by decide +kernel, by decide⟩, im_yJ0_coder_7d493, sl_yJ0_coder_7d493⟩
theorem mJ1_indexOf_4cfef : MOKs yJ1_indexOf_4cfef cJ1_indexOf_4cfef 4 (some .int) 4 := ⟨⟨cd_yJ1_indexOf_4cfef, ii_RJ1, ⟨by decide +kernel, by decide +kernel⟩, by decide +kernel, by decide⟩, st_yJ1_indexOf_4cfef⟩
theorem mJ1_canEncode_9a6ad : MOKs yJ1_canEncode_9a6ad cJ1_canEncode_9a6ad 1 (some .boolean) 1 := ⟨⟨cd_yJ1_canEncode_9a6ad, ii_RJ1, ⟨by decide +kernel, by decide +kernel⟩, by decide +kernel, by decide⟩, st_yJ1_canEncode_9a6ad⟩
theorem mJ1_indexOfChar_4cfef : MOKs yJ1_indexOfChar_4cfef cJ1_indexOfChar_4cfef 6 (some .int) 4 := ⟨⟨cd_yJ1_indexOfChar_4cfef, ii_RJ1, ⟨by decide +kernel, by decide +kernel⟩, by decide +kernel, by decide⟩, st_yJ1_indexOfChar_4cfef⟩
theorem mJ2_indexOf_4cfef : MOKs yJ2_indexOf_4cfef cJ2_indexOf_4cfef 4 (some .int) 4 := ⟨⟨cd_yJ2_indexOf_4cfef, ii_RJ2, ⟨by decide +kernel, by decide +kernel⟩, by decide +kernel, by decide⟩, st_yJ2_indexOf_4cfef⟩
theorem mJ2_indexOfChar_4cfef : MOKs yJ2_indexOfChar_4cfef cJ2_indexOfChar_4cfef 4 (some .int) 4 := ⟨⟨cd_yJ2_indexOfChar_4cfef, ii_RJ2, ⟨by decide +kernel, by decide +kernel⟩, by decide +kernel, by decide⟩, st_yJ2_indexOfChar_4cfef⟩
theorem mJ2_checkBoundsBeginEnd_d044e : MOKs yJ2_checkBoundsBeginEnd_d044e cJ2_checkBoundsBeginEnd_d044e 3 none 3 := ⟨⟨cd_yJ2_checkBoundsBeginEnd_d044e, ii_RJ2, ⟨by decide +kernel, by decide +kernel⟩, by decide +kernel, by decide⟩, st_yJ2_checkBoundsBeginEnd_d044e⟩
theorem mJ2_length_9d52b : MOKs yJ2_length_9d52b cJ2_length_9d52b 1 (some .int) 1 := ⟨⟨cd_yJ2_length_9d52b, ii_RJ2, ⟨by decide +kernel, by decide +kernel⟩, by decide +kernel, by decide⟩, st_yJ2_length_9d52b⟩
theorem mJ0_checkBoundsBeginEnd_23922 : MOKs yJ0_checkBoundsBeginEnd_23922 cJ0_checkBoundsBeginEnd_23922 3 none 3 := ⟨⟨cd_yJ0_checkBoundsBeginEnd_23922, ii_RJ0, ⟨by decide +kernel, by decide +kernel⟩, by decide +kernel, by decide⟩, st_yJ0_checkBoundsBeginEnd_23922⟩
theorem mJ3_checkFromToIndex_8c36e : MOKs yJ3_checkFromToIndex_8c36e cJ3_checkFromToIndex_8c36e 4 (some .int) 4 := ⟨⟨cd_yJ3_checkFromToIndex_8c36e, ii_RJ3, ⟨by decide +kernel, by decide +kernel⟩, by decide +kernel, by decide⟩, st_yJ3_checkFromToIndex_8c36e⟩
theorem mJ2_indexOfCharUnsafe_4cfef : MOKs yJ2_indexOfCharUnsafe_4cfef cJ2_indexOfCharUnsafe_4cfef 5 (some .int) 4 := ⟨⟨cd_yJ2_indexOfCharUnsafe_4cfef, ii_RJ2, ⟨by decide +kernel, by decide +kernel⟩, by decide +kernel, by decide⟩, st_yJ2_indexOfCharUnsafe_4cfef⟩
theorem mJ2_getChar_3b067 : MOKs yJ2_getChar_3b067 cJ2_getChar_3b067 2 (some .char) 2 := ⟨⟨cd_yJ2_getChar_3b067, ii_RJ2, ⟨by decide +kernel, by decide +kernel⟩, by decide +kernel, by decide⟩, st_yJ2_getChar_3b067⟩
theorem mJ2_indexOfSupplementary_4cfef : MOKs yJ2_indexOfSupplementary_4cfef cJ2_indexOfSupplementary_4cfef 7 (some .int) 4 := ⟨⟨cd_yJ2_indexOfSupplementary_4cfef, ii_RJ2, ⟨by decide +kernel, by decide +kernel⟩, by decide +kernel, by decide⟩, st_yJ2_indexOfSupplementary_4cfef⟩
theorem mJ11_isValidCodePoint_9a6ad : MOKs yJ11_isValidCodePoint_9a6ad cJ11_isValidCodePoint_9a6ad 2 (some .boolean) 1 := ⟨⟨cd_yJ11_isValidCodePoint_9a6ad, ii_RJ11, ⟨by decide +kernel, by decide +kernel⟩, by decide +kernel, by decide⟩, st_yJ11_isValidCodePoint_9a6ad⟩
theorem mJ11_highSurrogate_5068e : MOKs yJ11_highSurrogate_5068e cJ11_highSurrogate_5068e 1 (some .char) 1 := ⟨⟨cd_yJ11_highSurrogate_5068e, ii_RJ11, ⟨by decide +kernel, by decide +kernel⟩, by decide +kernel, by decide⟩, st_yJ11_highSurrogate_5068e⟩
theorem mJ11_lowSurrogate_5068e : MOKs yJ11_lowSurrogate_5068e cJ11_lowSurrogate_5068e 1 (some .char) 1 := ⟨⟨cd_yJ11_lowSurrogate_5068e, ii_RJ11, ⟨by decide +kernel, by decide +kernel⟩, by decide +kernel, by decide⟩, st_yJ11_lowSurrogate_5068e⟩
theorem mX5_fail : MOKv yX5_fail cX5_fail 1 none 0 := ⟨⟨cd_yX5_fail, ii_RX5, ⟨by decide +kernel, by decide +kernel⟩, by decide +kernel, by decide⟩, im_yX5_fail, sl_yX5_fail⟩
theorem mX5_sum : MOKv yX5_sum cX5_sum 4 (some .int) 1 := ⟨⟨cd_yX5_sum, ii_RX5, ⟨by decide +kernel, by decide +kernel⟩, by decide +kernel, by decide⟩, im_yX5_sum, sl_yX5_sum⟩
theorem mX12_law : MOKv yX12_law cX12_law 2 (some .int) 0 := ⟨⟨cd_yX12_law, ii_RX12, ⟨by decide +kernel, by decide +kernel⟩, by decide +kernel, by decide⟩, im_yX12_law, sl_yX12_law⟩
theorem mX12_reads : MOKv yX12_reads cX12_reads 3 (some .boolean) 0 := ⟨⟨cd_yX12_reads, ii_RX12, ⟨by decide +kernel, by decide +kernel⟩, by decide +kernel, by decide⟩, im_yX12_reads, sl_yX12_reads⟩
theorem mX12_wanted : MOKv yX12_wanted cX12_wanted 4 (some .int) 1 := ⟨⟨cd_yX12_wanted, ii_RX12, ⟨by decide +kernel, by decide +kernel⟩, by decide +kernel, by decide⟩, im_yX12_wanted, sl_yX12_wanted⟩
theorem mX12_emits : MOKv yX12_emits cX12_emits 2 none 1 := ⟨⟨cd_yX12_emits, ii_RX12, ⟨by decide +kernel, by decide +kernel⟩, by decide +kernel, by decide⟩, im_yX12_emits, sl_yX12_emits⟩
theorem mX12_binds : MOKv yX12_binds cX12_binds 1 none 0 := ⟨⟨cd_yX12_binds, ii_RX12, ⟨by decide +kernel, by decide +kernel⟩, by decide +kernel, by decide⟩, im_yX12_binds, sl_yX12_binds⟩
theorem mX12_isName : MOKs yX12_isName cX12_isName 1 (some .boolean) 1 := ⟨⟨cd_yX12_isName, ii_RX12, ⟨by decide +kernel, by decide +kernel⟩, by decide +kernel, by decide⟩, st_yX12_isName⟩
theorem mX12_behind : MOKv yX12_behind cX12_behind 3 (some .int) 1 := ⟨⟨cd_yX12_behind, ii_RX12, ⟨by decide +kernel, by decide +kernel⟩, by decide +kernel, by decide⟩, im_yX12_behind, sl_yX12_behind⟩
theorem mX12_closes : MOKv yX12_closes cX12_closes 1 (some .boolean) 0 := ⟨⟨cd_yX12_closes, ii_RX12, ⟨by decide +kernel, by decide +kernel⟩, by decide +kernel, by decide⟩, im_yX12_closes, sl_yX12_closes⟩
theorem mX12_settles : MOKv yX12_settles cX12_settles 2 none 1 := ⟨⟨cd_yX12_settles, ii_RX12, ⟨by decide +kernel, by decide +kernel⟩, by decide +kernel, by decide⟩, im_yX12_settles, sl_yX12_settles⟩
theorem mX12_strength : MOKs yX12_strength cX12_strength 1 (some .int) 1 := ⟨⟨cd_yX12_strength, ii_RX12, ⟨by decide +kernel, by decide +kernel⟩, by decide +kernel, by decide⟩, st_yX12_strength⟩
theorem mX11_eyes : MOKv yX11_eyes cX11_eyes 3 (some .int) 1 := ⟨⟨cd_yX11_eyes, ii_RX11, ⟨by decide +kernel, by decide +kernel⟩, by decide +kernel, by decide⟩, im_yX11_eyes, sl_yX11_eyes⟩
theorem mX12_eyes : MOKv yX12_eyes cX12_eyes 3 (some .int) 1 := ⟨⟨cd_yX12_eyes, ii_RX12, ⟨by decide +kernel, by decide +kernel⟩, by decide +kernel, by decide⟩, im_yX12_eyes, sl_yX12_eyes⟩
theorem mX11_race : MOKv yX11_race cX11_race 14 (some .int) 4 := ⟨⟨cd_yX11_race, ii_RX11, ⟨by decide +kernel, by decide +kernel⟩, by decide +kernel, by decide⟩, im_yX11_race, sl_yX11_race⟩
theorem mX11_drawn : MOKs yX11_drawn cX11_drawn 1 (some .int) 1 := ⟨⟨cd_yX11_drawn, ii_RX11, ⟨by decide +kernel, by decide +kernel⟩, by decide +kernel, by decide⟩, st_yX11_drawn⟩
theorem mX11_part : MOKs yX11_part cX11_part 2 (some .int) 2 := ⟨⟨cd_yX11_part, ii_RX11, ⟨by decide +kernel, by decide +kernel⟩, by decide +kernel, by decide⟩, st_yX11_part⟩
theorem mX11_wears : MOKv yX11_wears cX11_wears 7 (some .boolean) 5 := ⟨⟨cd_yX11_wears, ii_RX11, ⟨by decide +kernel, by decide +kernel⟩, by decide +kernel, by decide⟩, im_yX11_wears, sl_yX11_wears⟩
theorem mX6_formThen : MOKv yX6_formThen cX6_formThen 3 (some .int) 2 := ⟨⟨cd_yX6_formThen, ii_RX6, ⟨by decide +kernel, by decide +kernel⟩, by decide +kernel, by decide⟩, im_yX6_formThen, sl_yX6_formThen⟩
theorem mX6_ahead : MOKv yX6_ahead cX6_ahead 6 (some .int) 2 := ⟨⟨cd_yX6_ahead, ii_RX6, ⟨by decide +kernel, by decide +kernel⟩, by decide +kernel, by decide⟩, im_yX6_ahead, sl_yX6_ahead⟩
theorem mX5_says : MOKv yX5_says cX5_says 2 (some .int) 1 := ⟨⟨cd_yX5_says, ii_RX5, ⟨by decide +kernel, by decide +kernel⟩, by decide +kernel, by decide⟩, im_yX5_says, sl_yX5_says⟩
theorem mX11_timeOf : MOKv yX11_timeOf cX11_timeOf 6 (some .int) 4 := ⟨⟨cd_yX11_timeOf, ii_RX11, ⟨by decide +kernel, by decide +kernel⟩, by decide +kernel, by decide⟩, im_yX11_timeOf, sl_yX11_timeOf⟩
theorem mX12_race : MOKv yX12_race cX12_race 11 (some .int) 4 := ⟨⟨cd_yX12_race, ii_RX12, ⟨by decide +kernel, by decide +kernel⟩, by decide +kernel, by decide⟩, im_yX12_race, sl_yX12_race⟩
theorem mX12_workedOut : MOKv yX12_workedOut cX12_workedOut 9 (some .int) 5 := ⟨⟨cd_yX12_workedOut, ii_RX12, ⟨by decide +kernel, by decide +kernel⟩, by decide +kernel, by decide⟩, im_yX12_workedOut, sl_yX12_workedOut⟩
theorem mX12_named : MOKv yX12_named cX12_named 6 (some .int) 5 := ⟨⟨cd_yX12_named, ii_RX12, ⟨by decide +kernel, by decide +kernel⟩, by decide +kernel, by decide⟩, im_yX12_named, sl_yX12_named⟩
theorem mX12_formThen : MOKv yX12_formThen cX12_formThen 4 (some .int) 2 := ⟨⟨cd_yX12_formThen, ii_RX12, ⟨by decide +kernel, by decide +kernel⟩, by decide +kernel, by decide⟩, im_yX12_formThen, sl_yX12_formThen⟩
theorem mX12_lesserForms : MOKv yX12_lesserForms cX12_lesserForms 5 (some .int) 2 := ⟨⟨cd_yX12_lesserForms, ii_RX12, ⟨by decide +kernel, by decide +kernel⟩, by decide +kernel, by decide⟩, im_yX12_lesserForms, sl_yX12_lesserForms⟩
theorem mX12_two : MOKs yX12_two cX12_two 3 (some .int) 3 := ⟨⟨cd_yX12_two, ii_RX12, ⟨by decide +kernel, by decide +kernel⟩, by decide +kernel, by decide⟩, st_yX12_two⟩
theorem mX11_changed : MOKv yX11_changed cX11_changed 3 (some .int) 2 := ⟨⟨cd_yX11_changed, ii_RX11, ⟨by decide +kernel, by decide +kernel⟩, by decide +kernel, by decide⟩, im_yX11_changed, sl_yX11_changed⟩
theorem mX2_pairUp : MOKv yX2_pairUp cX2_pairUp 5 none 0 := ⟨⟨cd_yX2_pairUp, ii_RX2, ⟨by decide +kernel, by decide +kernel⟩, by decide +kernel, by decide⟩, im_yX2_pairUp, sl_yX2_pairUp⟩
theorem mX2_isPair : MOKv yX2_isPair cX2_isPair 3 (some .boolean) 2 := ⟨⟨cd_yX2_isPair, ii_RX2, ⟨by decide +kernel, by decide +kernel⟩, by decide +kernel, by decide⟩, im_yX2_isPair, sl_yX2_isPair⟩
theorem mX2_sortOf : MOKv yX2_sortOf cX2_sortOf 3 (some .int) 2 := ⟨⟨cd_yX2_sortOf, ii_RX2, ⟨by decide +kernel, by decide +kernel⟩, by decide +kernel, by decide⟩, im_yX2_sortOf, sl_yX2_sortOf⟩
theorem mX7_isNew : MOKv yX7_isNew cX7_isNew 2 (some .boolean) 1 := ⟨⟨cd_yX7_isNew, ii_RX7, ⟨by decide +kernel, by decide +kernel⟩, by decide +kernel, by decide⟩, im_yX7_isNew, sl_yX7_isNew⟩
theorem mX2_gained : MOKv yX2_gained cX2_gained 5 (some .int) 2 := ⟨⟨cd_yX2_gained, ii_RX2, ⟨by decide +kernel, by decide +kernel⟩, by decide +kernel, by decide⟩, im_yX2_gained, sl_yX2_gained⟩
theorem mX2_mean : MOKv yX2_mean cX2_mean 2 (some .int) 1 := ⟨⟨cd_yX2_mean, ii_RX2, ⟨by decide +kernel, by decide +kernel⟩, by decide +kernel, by decide⟩, im_yX2_mean, sl_yX2_mean⟩
theorem mX12_changed : MOKv yX12_changed cX12_changed 4 (some .int) 2 := ⟨⟨cd_yX12_changed, ii_RX12, ⟨by decide +kernel, by decide +kernel⟩, by decide +kernel, by decide⟩, im_yX12_changed, sl_yX12_changed⟩
theorem mX12_meanOf : MOKv yX12_meanOf cX12_meanOf 2 (some .int) 1 := ⟨⟨cd_yX12_meanOf, ii_RX12, ⟨by decide +kernel, by decide +kernel⟩, by decide +kernel, by decide⟩, im_yX12_meanOf, sl_yX12_meanOf⟩
theorem mX12_findPairs : MOKv yX12_findPairs cX12_findPairs 4 none 1 := ⟨⟨cd_yX12_findPairs, ii_RX12, ⟨by decide +kernel, by decide +kernel⟩, by decide +kernel, by decide⟩, im_yX12_findPairs, sl_yX12_findPairs⟩
theorem mX12_nextOf : MOKv yX12_nextOf cX12_nextOf 4 (some .int) 1 := ⟨⟨cd_yX12_nextOf, ii_RX12, ⟨by decide +kernel, by decide +kernel⟩, by decide +kernel, by decide⟩, im_yX12_nextOf, sl_yX12_nextOf⟩
theorem mX12_sortOf : MOKv yX12_sortOf cX12_sortOf 3 (some .int) 2 := ⟨⟨cd_yX12_sortOf, ii_RX12, ⟨by decide +kernel, by decide +kernel⟩, by decide +kernel, by decide⟩, im_yX12_sortOf, sl_yX12_sortOf⟩
theorem mX12_isNew : MOKv yX12_isNew cX12_isNew 2 (some .boolean) 1 := ⟨⟨cd_yX12_isNew, ii_RX12, ⟨by decide +kernel, by decide +kernel⟩, by decide +kernel, by decide⟩, im_yX12_isNew, sl_yX12_isNew⟩
theorem mX12_gained : MOKv yX12_gained cX12_gained 3 (some .int) 2 := ⟨⟨cd_yX12_gained, ii_RX12, ⟨by decide +kernel, by decide +kernel⟩, by decide +kernel, by decide⟩, im_yX12_gained, sl_yX12_gained⟩
theorem mX11_gain : MOKv yX11_gain cX11_gain 2 (some .int) 1 := ⟨⟨cd_yX11_gain, ii_RX11, ⟨by decide +kernel, by decide +kernel⟩, by decide +kernel, by decide⟩, im_yX11_gain, sl_yX11_gain⟩
theorem mX2_since : MOKv yX2_since cX2_since 1 (some .int) 0 := ⟨⟨cd_yX2_since, ii_RX2, ⟨by decide +kernel, by decide +kernel⟩, by decide +kernel, by decide⟩, im_yX2_since, sl_yX2_since⟩
theorem mX11_less : MOKs yX11_less cX11_less 2 (some .int) 2 := ⟨⟨cd_yX11_less, ii_RX11, ⟨by decide +kernel, by decide +kernel⟩, by decide +kernel, by decide⟩, st_yX11_less⟩
theorem mX2_inRaces : MOKv yX2_inRaces cX2_inRaces 7 (some .int) 0 := ⟨⟨cd_yX2_inRaces, ii_RX2, ⟨by decide +kernel, by decide +kernel⟩, by decide +kernel, by decide⟩, im_yX2_inRaces, sl_yX2_inRaces⟩
theorem mX10_clear : MOKv yX10_clear cX10_clear 1 none 0 := ⟨⟨cd_yX10_clear, ii_RX10, ⟨by decide +kernel, by decide +kernel⟩, by decide +kernel, by decide⟩, im_yX10_clear, sl_yX10_clear⟩
theorem mX2_addSeen : MOKv yX2_addSeen cX2_addSeen 2 none 1 := ⟨⟨cd_yX2_addSeen, ii_RX2, ⟨by decide +kernel, by decide +kernel⟩, by decide +kernel, by decide⟩, im_yX2_addSeen, sl_yX2_addSeen⟩
theorem mX10_add : MOKv yX10_add cX10_add 3 none 2 := ⟨⟨cd_yX10_add, ii_RX10, ⟨by decide +kernel, by decide +kernel⟩, by decide +kernel, by decide⟩, im_yX10_add, sl_yX10_add⟩
theorem mX2_isLastOfRace : MOKv yX2_isLastOfRace cX2_isLastOfRace 4 (some .boolean) 1 := ⟨⟨cd_yX2_isLastOfRace, ii_RX2, ⟨by decide +kernel, by decide +kernel⟩, by decide +kernel, by decide⟩, im_yX2_isLastOfRace, sl_yX2_isLastOfRace⟩
theorem mX7_isOfRace : MOKv yX7_isOfRace cX7_isOfRace 4 (some .boolean) 3 := ⟨⟨cd_yX7_isOfRace, ii_RX7, ⟨by decide +kernel, by decide +kernel⟩, by decide +kernel, by decide⟩, im_yX7_isOfRace, sl_yX7_isOfRace⟩
theorem mX10_gained : MOKv yX10_gained cX10_gained 5 (some .int) 0 := ⟨⟨cd_yX10_gained, ii_RX10, ⟨by decide +kernel, by decide +kernel⟩, by decide +kernel, by decide⟩, im_yX10_gained, sl_yX10_gained⟩
theorem mX2_bound : MOKv yX2_bound cX2_bound 3 (some .int) 1 := ⟨⟨cd_yX2_bound, ii_RX2, ⟨by decide +kernel, by decide +kernel⟩, by decide +kernel, by decide⟩, im_yX2_bound, sl_yX2_bound⟩
theorem mX2_further : MOKs yX2_further cX2_further 3 (some .int) 3 := ⟨⟨cd_yX2_further, ii_RX2, ⟨by decide +kernel, by decide +kernel⟩, by decide +kernel, by decide⟩, st_yX2_further⟩
theorem mX12_gain : MOKv yX12_gain cX12_gain 5 (some .int) 1 := ⟨⟨cd_yX12_gain, ii_RX12, ⟨by decide +kernel, by decide +kernel⟩, by decide +kernel, by decide⟩, im_yX12_gain, sl_yX12_gain⟩
theorem mX12_since : MOKv yX12_since cX12_since 3 (some .int) 0 := ⟨⟨cd_yX12_since, ii_RX12, ⟨by decide +kernel, by decide +kernel⟩, by decide +kernel, by decide⟩, im_yX12_since, sl_yX12_since⟩
theorem mX12_beside : MOKv yX12_beside cX12_beside 5 (some .int) 0 := ⟨⟨cd_yX12_beside, ii_RX12, ⟨by decide +kernel, by decide +kernel⟩, by decide +kernel, by decide⟩, im_yX12_beside, sl_yX12_beside⟩
theorem mX12_findRace : MOKv yX12_findRace cX12_findRace 4 none 2 := ⟨⟨cd_yX12_findRace, ii_RX12, ⟨by decide +kernel, by decide +kernel⟩, by decide +kernel, by decide⟩, im_yX12_findRace, sl_yX12_findRace⟩
theorem mX12_isOld : MOKv yX12_isOld cX12_isOld 2 (some .boolean) 1 := ⟨⟨cd_yX12_isOld, ii_RX12, ⟨by decide +kernel, by decide +kernel⟩, by decide +kernel, by decide⟩, im_yX12_isOld, sl_yX12_isOld⟩
theorem mX12_besideOf : MOKs yX12_besideOf cX12_besideOf 5 (some .int) 4 := ⟨⟨cd_yX12_besideOf, ii_RX12, ⟨by decide +kernel, by decide +kernel⟩, by decide +kernel, by decide⟩, st_yX12_besideOf⟩
theorem mX12_least : MOKs yX12_least cX12_least 2 (some .int) 2 := ⟨⟨cd_yX12_least, ii_RX12, ⟨by decide +kernel, by decide +kernel⟩, by decide +kernel, by decide⟩, st_yX12_least⟩
theorem mX12_greatest : MOKs yX12_greatest cX12_greatest 2 (some .int) 2 := ⟨⟨cd_yX12_greatest, ii_RX12, ⟨by decide +kernel, by decide +kernel⟩, by decide +kernel, by decide⟩, st_yX12_greatest⟩
theorem mX11_unseen : MOKv yX11_unseen cX11_unseen 3 (some .int) 2 := ⟨⟨cd_yX11_unseen, ii_RX11, ⟨by decide +kernel, by decide +kernel⟩, by decide +kernel, by decide⟩, im_yX11_unseen, sl_yX11_unseen⟩
theorem mX2_canBe : MOKv yX2_canBe cX2_canBe 6 (some .int) 3 := ⟨⟨cd_yX2_canBe, ii_RX2, ⟨by decide +kernel, by decide +kernel⟩, by decide +kernel, by decide⟩, im_yX2_canBe, sl_yX2_canBe⟩
theorem mX2_hide : MOKv yX2_hide cX2_hide 4 none 2 := ⟨⟨cd_yX2_hide, ii_RX2, ⟨by decide +kernel, by decide +kernel⟩, by decide +kernel, by decide⟩, im_yX2_hide, sl_yX2_hide⟩
theorem mX2_furthest : MOKv yX2_furthest cX2_furthest 5 (some .int) 2 := ⟨⟨cd_yX2_furthest, ii_RX2, ⟨by decide +kernel, by decide +kernel⟩, by decide +kernel, by decide⟩, im_yX2_furthest, sl_yX2_furthest⟩
theorem mX10_turnNew : MOKv yX10_turnNew cX10_turnNew 2 none 1 := ⟨⟨cd_yX10_turnNew, ii_RX10, ⟨by decide +kernel, by decide +kernel⟩, by decide +kernel, by decide⟩, im_yX10_turnNew, sl_yX10_turnNew⟩
theorem mX12_unseen : MOKv yX12_unseen cX12_unseen 10 (some .int) 2 := ⟨⟨cd_yX12_unseen, ii_RX12, ⟨by decide +kernel, by decide +kernel⟩, by decide +kernel, by decide⟩, im_yX12_unseen, sl_yX12_unseen⟩
theorem mX11_person : MOKv yX11_person cX11_person 2 (some .int) 1 := ⟨⟨cd_yX11_person, ii_RX11, ⟨by decide +kernel, by decide +kernel⟩, by decide +kernel, by decide⟩, im_yX11_person, sl_yX11_person⟩
theorem mX2_ofRunner : MOKv yX2_ofRunner cX2_ofRunner 3 (some .int) 1 := ⟨⟨cd_yX2_ofRunner, ii_RX2, ⟨by decide +kernel, by decide +kernel⟩, by decide +kernel, by decide⟩, im_yX2_ofRunner, sl_yX2_ofRunner⟩
theorem mX12_person : MOKv yX12_person cX12_person 2 (some .int) 1 := ⟨⟨cd_yX12_person, ii_RX12, ⟨by decide +kernel, by decide +kernel⟩, by decide +kernel, by decide⟩, im_yX12_person, sl_yX12_person⟩
theorem mX12_gainsOf : MOKv yX12_gainsOf cX12_gainsOf 7 (some .int) 1 := ⟨⟨cd_yX12_gainsOf, ii_RX12, ⟨by decide +kernel, by decide +kernel⟩, by decide +kernel, by decide⟩, im_yX12_gainsOf, sl_yX12_gainsOf⟩
theorem mX11_shares : MOKv yX11_shares cX11_shares 6 (some .int) 3 := ⟨⟨cd_yX11_shares, ii_RX11, ⟨by decide +kernel, by decide +kernel⟩, by decide +kernel, by decide⟩, im_yX11_shares, sl_yX11_shares⟩
theorem mX11_isShare : MOKs yX11_isShare cX11_isShare 3 (some .boolean) 3 := ⟨⟨cd_yX11_isShare, ii_RX11, ⟨by decide +kernel, by decide +kernel⟩, by decide +kernel, by decide⟩, st_yX11_isShare⟩
theorem mX12_shares : MOKv yX12_shares cX12_shares 7 (some .int) 3 := ⟨⟨cd_yX12_shares, ii_RX12, ⟨by decide +kernel, by decide +kernel⟩, by decide +kernel, by decide⟩, im_yX12_shares, sl_yX12_shares⟩
theorem mX11_led : MOKv yX11_led cX11_led 5 (some .int) 0 := ⟨⟨cd_yX11_led, ii_RX11, ⟨by decide +kernel, by decide +kernel⟩, by decide +kernel, by decide⟩, im_yX11_led, sl_yX11_led⟩
theorem mX12_led : MOKv yX12_led cX12_led 4 (some .int) 0 := ⟨⟨cd_yX12_led, ii_RX12, ⟨by decide +kernel, by decide +kernel⟩, by decide +kernel, by decide⟩, im_yX12_led, sl_yX12_led⟩
theorem mX11_point : MOKv yX11_point cX11_point 3 (some .int) 2 := ⟨⟨cd_yX11_point, ii_RX11, ⟨by decide +kernel, by decide +kernel⟩, by decide +kernel, by decide⟩, im_yX11_point, sl_yX11_point⟩
theorem mX1_rises : MOKv yX1_rises cX1_rises 2 (some .boolean) 1 := ⟨⟨cd_yX1_rises, ii_RX1, ⟨by decide +kernel, by decide +kernel⟩, by decide +kernel, by decide⟩, im_yX1_rises, sl_yX1_rises⟩
theorem mX1_come : MOKv yX1_come cX1_come 3 (some .int) 2 := ⟨⟨cd_yX1_come, ii_RX1, ⟨by decide +kernel, by decide +kernel⟩, by decide +kernel, by decide⟩, im_yX1_come, sl_yX1_come⟩
theorem mX12_point : MOKv yX12_point cX12_point 3 (some .int) 2 := ⟨⟨cd_yX12_point, ii_RX12, ⟨by decide +kernel, by decide +kernel⟩, by decide +kernel, by decide⟩, im_yX12_point, sl_yX12_point⟩
theorem mX11_belt : MOKv yX11_belt cX11_belt 4 (some .int) 2 := ⟨⟨cd_yX11_belt, ii_RX11, ⟨by decide +kernel, by decide +kernel⟩, by decide +kernel, by decide⟩, im_yX11_belt, sl_yX11_belt⟩
theorem mX1_at : MOKv yX1_at cX1_at 4 (some .int) 1 := ⟨⟨cd_yX1_at, ii_RX1, ⟨by decide +kernel, by decide +kernel⟩, by decide +kernel, by decide⟩, im_yX1_at, sl_yX1_at⟩
theorem mX1_between : MOKv yX1_between cX1_between 4 (some .int) 2 := ⟨⟨cd_yX1_between, ii_RX1, ⟨by decide +kernel, by decide +kernel⟩, by decide +kernel, by decide⟩, im_yX1_between, sl_yX1_between⟩
theorem mX12_belt : MOKv yX12_belt cX12_belt 3 (some .int) 2 := ⟨⟨cd_yX12_belt, ii_RX12, ⟨by decide +kernel, by decide +kernel⟩, by decide +kernel, by decide⟩, im_yX12_belt, sl_yX12_belt⟩
theorem mX12_beltAt : MOKv yX12_beltAt cX12_beltAt 5 (some .int) 1 := ⟨⟨cd_yX12_beltAt, ii_RX12, ⟨by decide +kernel, by decide +kernel⟩, by decide +kernel, by decide⟩, im_yX12_beltAt, sl_yX12_beltAt⟩
theorem mX11_records : MOKv yX11_records cX11_records 4 (some .int) 3 := ⟨⟨cd_yX11_records, ii_RX11, ⟨by decide +kernel, by decide +kernel⟩, by decide +kernel, by decide⟩, im_yX11_records, sl_yX11_records⟩
theorem mX7_recordOf : MOKv yX7_recordOf cX7_recordOf 9 (some .int) 3 := ⟨⟨cd_yX7_recordOf, ii_RX7, ⟨by decide +kernel, by decide +kernel⟩, by decide +kernel, by decide⟩, im_yX7_recordOf, sl_yX7_recordOf⟩
theorem mX7_lineUp : MOKv yX7_lineUp cX7_lineUp 7 (some .int) 2 := ⟨⟨cd_yX7_lineUp, ii_RX7, ⟨by decide +kernel, by decide +kernel⟩, by decide +kernel, by decide⟩, im_yX7_lineUp, sl_yX7_lineUp⟩
theorem mX7_falls : MOKv yX7_falls cX7_falls 3 (some .boolean) 2 := ⟨⟨cd_yX7_falls, ii_RX7, ⟨by decide +kernel, by decide +kernel⟩, by decide +kernel, by decide⟩, im_yX7_falls, sl_yX7_falls⟩
theorem mX7_isSlower : MOKv yX7_isSlower cX7_isSlower 3 (some .boolean) 2 := ⟨⟨cd_yX7_isSlower, ii_RX7, ⟨by decide +kernel, by decide +kernel⟩, by decide +kernel, by decide⟩, im_yX7_isSlower, sl_yX7_isSlower⟩
theorem mX12_records : MOKv yX12_records cX12_records 8 (some .int) 3 := ⟨⟨cd_yX12_records, ii_RX12, ⟨by decide +kernel, by decide +kernel⟩, by decide +kernel, by decide⟩, im_yX12_records, sl_yX12_records⟩
theorem mX12_isRecord : MOKv yX12_isRecord cX12_isRecord 4 (some .boolean) 2 := ⟨⟨cd_yX12_isRecord, ii_RX12, ⟨by decide +kernel, by decide +kernel⟩, by decide +kernel, by decide⟩, im_yX12_isRecord, sl_yX12_isRecord⟩
theorem mX12_falls : MOKv yX12_falls cX12_falls 3 (some .boolean) 2 := ⟨⟨cd_yX12_falls, ii_RX12, ⟨by decide +kernel, by decide +kernel⟩, by decide +kernel, by decide⟩, im_yX12_falls, sl_yX12_falls⟩
theorem mX12_isBefore : MOKv yX12_isBefore cX12_isBefore 3 (some .boolean) 2 := ⟨⟨cd_yX12_isBefore, ii_RX12, ⟨by decide +kernel, by decide +kernel⟩, by decide +kernel, by decide⟩, im_yX12_isBefore, sl_yX12_isBefore⟩
theorem mX11_best : MOKv yX11_best cX11_best 5 (some .int) 3 := ⟨⟨cd_yX11_best, ii_RX11, ⟨by decide +kernel, by decide +kernel⟩, by decide +kernel, by decide⟩, im_yX11_best, sl_yX11_best⟩
theorem mX7_bestOf : MOKv yX7_bestOf cX7_bestOf 4 (some .int) 1 := ⟨⟨cd_yX7_bestOf, ii_RX7, ⟨by decide +kernel, by decide +kernel⟩, by decide +kernel, by decide⟩, im_yX7_bestOf, sl_yX7_bestOf⟩
theorem mX12_best : MOKv yX12_best cX12_best 6 (some .int) 3 := ⟨⟨cd_yX12_best, ii_RX12, ⟨by decide +kernel, by decide +kernel⟩, by decide +kernel, by decide⟩, im_yX12_best, sl_yX12_best⟩
theorem mX11_rule : MOKv yX11_rule cX11_rule 2 (some .int) 1 := ⟨⟨cd_yX11_rule, ii_RX11, ⟨by decide +kernel, by decide +kernel⟩, by decide +kernel, by decide⟩, im_yX11_rule, sl_yX11_rule⟩
theorem mX7_fallenBy : MOKv yX7_fallenBy cX7_fallenBy 4 (some .int) 1 := ⟨⟨cd_yX7_fallenBy, ii_RX7, ⟨by decide +kernel, by decide +kernel⟩, by decide +kernel, by decide⟩, im_yX7_fallenBy, sl_yX7_fallenBy⟩
theorem mX12_rule : MOKv yX12_rule cX12_rule 4 (some .int) 1 := ⟨⟨cd_yX12_rule, ii_RX12, ⟨by decide +kernel, by decide +kernel⟩, by decide +kernel, by decide⟩, im_yX12_rule, sl_yX12_rule⟩
theorem mX11_dead : MOKv yX11_dead cX11_dead 3 (some .int) 2 := ⟨⟨cd_yX11_dead, ii_RX11, ⟨by decide +kernel, by decide +kernel⟩, by decide +kernel, by decide⟩, im_yX11_dead, sl_yX11_dead⟩
theorem mX12_dead : MOKv yX12_dead cX12_dead 3 (some .int) 2 := ⟨⟨cd_yX12_dead, ii_RX12, ⟨by decide +kernel, by decide +kernel⟩, by decide +kernel, by decide⟩, im_yX12_dead, sl_yX12_dead⟩
theorem mX11_needed : MOKv yX11_needed cX11_needed 6 (some .int) 1 := ⟨⟨cd_yX11_needed, ii_RX11, ⟨by decide +kernel, by decide +kernel⟩, by decide +kernel, by decide⟩, im_yX11_needed, sl_yX11_needed⟩
theorem mX2_spread : MOKv yX2_spread cX2_spread 10 (some .long) 0 := ⟨⟨cd_yX2_spread, ii_RX2, ⟨by decide +kernel, by decide +kernel⟩, by decide +kernel, by decide⟩, im_yX2_spread, sl_yX2_spread⟩
theorem mX12_needed : MOKv yX12_needed cX12_needed 11 (some .int) 1 := ⟨⟨cd_yX12_needed, ii_RX12, ⟨by decide +kernel, by decide +kernel⟩, by decide +kernel, by decide⟩, im_yX12_needed, sl_yX12_needed⟩
theorem mX11_undo : MOKv yX11_undo cX11_undo 1 (some .int) 0 := ⟨⟨cd_yX11_undo, ii_RX11, ⟨by decide +kernel, by decide +kernel⟩, by decide +kernel, by decide⟩, im_yX11_undo, sl_yX11_undo⟩
theorem mX3_back : MOKv yX3_back cX3_back 1 (some .int) 0 := ⟨⟨cd_yX3_back, ii_RX3, ⟨by decide +kernel, by decide +kernel⟩, by decide +kernel, by decide⟩, im_yX3_back, sl_yX3_back⟩
theorem mX12_undo : MOKv yX12_undo cX12_undo 1 (some .int) 0 := ⟨⟨cd_yX12_undo, ii_RX12, ⟨by decide +kernel, by decide +kernel⟩, by decide +kernel, by decide⟩, im_yX12_undo, sl_yX12_undo⟩
theorem mX11_redo : MOKv yX11_redo cX11_redo 1 (some .int) 0 := ⟨⟨cd_yX11_redo, ii_RX11, ⟨by decide +kernel, by decide +kernel⟩, by decide +kernel, by decide⟩, im_yX11_redo, sl_yX11_redo⟩
theorem mX3_again : MOKv yX3_again cX3_again 1 (some .int) 0 := ⟨⟨cd_yX3_again, ii_RX3, ⟨by decide +kernel, by decide +kernel⟩, by decide +kernel, by decide⟩, im_yX3_again, sl_yX3_again⟩
theorem mX12_redo : MOKv yX12_redo cX12_redo 1 (some .int) 0 := ⟨⟨cd_yX12_redo, ii_RX12, ⟨by decide +kernel, by decide +kernel⟩, by decide +kernel, by decide⟩, im_yX12_redo, sl_yX12_redo⟩
theorem mX11_body : MOKv yX11_body cX11_body 2 (some .int) 1 := ⟨⟨cd_yX11_body, ii_RX11, ⟨by decide +kernel, by decide +kernel⟩, by decide +kernel, by decide⟩, im_yX11_body, sl_yX11_body⟩
theorem mX0_come : MOKv yX0_come cX0_come 2 (some .int) 1 := ⟨⟨cd_yX0_come, ii_RX0, ⟨by decide +kernel, by decide +kernel⟩, by decide +kernel, by decide⟩, im_yX0_come, sl_yX0_come⟩
theorem mX12_body : MOKv yX12_body cX12_body 2 (some .int) 1 := ⟨⟨cd_yX12_body, ii_RX12, ⟨by decide +kernel, by decide +kernel⟩, by decide +kernel, by decide⟩, im_yX12_body, sl_yX12_body⟩
theorem mX11_act : MOKv yX11_act cX11_act 4 (some .int) 3 := ⟨⟨cd_yX11_act, ii_RX11, ⟨by decide +kernel, by decide +kernel⟩, by decide +kernel, by decide⟩, im_yX11_act, sl_yX11_act⟩
theorem mX0_has : MOKv yX0_has cX0_has 2 (some .boolean) 1 := ⟨⟨cd_yX0_has, ii_RX0, ⟨by decide +kernel, by decide +kernel⟩, by decide +kernel, by decide⟩, im_yX0_has, sl_yX0_has⟩
theorem mX0_acted : MOKv yX0_acted cX0_acted 4 (some .int) 3 := ⟨⟨cd_yX0_acted, ii_RX0, ⟨by decide +kernel, by decide +kernel⟩, by decide +kernel, by decide⟩, im_yX0_acted, sl_yX0_acted⟩
theorem mX0_called : MOKv yX0_called cX0_called 5 (some .int) 4 := ⟨⟨cd_yX0_called, ii_RX0, ⟨by decide +kernel, by decide +kernel⟩, by decide +kernel, by decide⟩, im_yX0_called, sl_yX0_called⟩
theorem mX0_begin : MOKv yX0_begin cX0_begin 8 (some .int) 5 := ⟨⟨cd_yX0_begin, ii_RX0, ⟨by decide +kernel, by decide +kernel⟩, by decide +kernel, by decide⟩, im_yX0_begin, sl_yX0_begin⟩
theorem mX0_withOwn : MOKs yX0_withOwn cX0_withOwn 4 (some .int) 2 := ⟨⟨cd_yX0_withOwn, ii_RX0, ⟨by decide +kernel, by decide +kernel⟩, by decide +kernel, by decide⟩, st_yX0_withOwn⟩
theorem mX0_goOn : MOKv yX0_goOn cX0_goOn 6 (some .int) 5 := ⟨⟨cd_yX0_goOn, ii_RX0, ⟨by decide +kernel, by decide +kernel⟩, by decide +kernel, by decide⟩, im_yX0_goOn, sl_yX0_goOn⟩
theorem mX12_act : MOKv yX12_act cX12_act 5 (some .int) 3 := ⟨⟨cd_yX12_act, ii_RX12, ⟨by decide +kernel, by decide +kernel⟩, by decide +kernel, by decide⟩, im_yX12_act, sl_yX12_act⟩
theorem mX12_givesOf : MOKv yX12_givesOf cX12_givesOf 5 (some .int) 3 := ⟨⟨cd_yX12_givesOf, ii_RX12, ⟨by decide +kernel, by decide +kernel⟩, by decide +kernel, by decide⟩, im_yX12_givesOf, sl_yX12_givesOf⟩
theorem mX12_begins : MOKv yX12_begins cX12_begins 2 none 1 := ⟨⟨cd_yX12_begins, ii_RX12, ⟨by decide +kernel, by decide +kernel⟩, by decide +kernel, by decide⟩, im_yX12_begins, sl_yX12_begins⟩
theorem mX12_choosesOf : MOKv yX12_choosesOf cX12_choosesOf 5 (some .int) 3 := ⟨⟨cd_yX12_choosesOf, ii_RX12, ⟨by decide +kernel, by decide +kernel⟩, by decide +kernel, by decide⟩, im_yX12_choosesOf, sl_yX12_choosesOf⟩
theorem mX12_partsOf : MOKv yX12_partsOf cX12_partsOf 5 (some .int) 3 := ⟨⟨cd_yX12_partsOf, ii_RX12, ⟨by decide +kernel, by decide +kernel⟩, by decide +kernel, by decide⟩, im_yX12_partsOf, sl_yX12_partsOf⟩
theorem mX12_tellsOf : MOKv yX12_tellsOf cX12_tellsOf 5 (some .int) 3 := ⟨⟨cd_yX12_tellsOf, ii_RX12, ⟨by decide +kernel, by decide +kernel⟩, by decide +kernel, by decide⟩, im_yX12_tellsOf, sl_yX12_tellsOf⟩
theorem mX11_trace : MOKv yX11_trace cX11_trace 2 (some .int) 1 := ⟨⟨cd_yX11_trace, ii_RX11, ⟨by decide +kernel, by decide +kernel⟩, by decide +kernel, by decide⟩, im_yX11_trace, sl_yX11_trace⟩
theorem mX12_trace : MOKv yX12_trace cX12_trace 2 (some .int) 1 := ⟨⟨cd_yX12_trace, ii_RX12, ⟨by decide +kernel, by decide +kernel⟩, by decide +kernel, by decide⟩, im_yX12_trace, sl_yX12_trace⟩
theorem mX11_keep : MOKv yX11_keep cX11_keep 3 (some .int) 2 := ⟨⟨cd_yX11_keep, ii_RX11, ⟨by decide +kernel, by decide +kernel⟩, by decide +kernel, by decide⟩, im_yX11_keep, sl_yX11_keep⟩
theorem mX8_hold : MOKv yX8_hold cX8_hold 3 none 2 := ⟨⟨cd_yX8_hold, ii_RX8, ⟨by decide +kernel, by decide +kernel⟩, by decide +kernel, by decide⟩, im_yX8_hold, sl_yX8_hold⟩
theorem mX12_keep : MOKv yX12_keep cX12_keep 3 (some .int) 2 := ⟨⟨cd_yX12_keep, ii_RX12, ⟨by decide +kernel, by decide +kernel⟩, by decide +kernel, by decide⟩, im_yX12_keep, sl_yX12_keep⟩
theorem mX11_row : MOKv yX11_row cX11_row 4 (some .int) 3 := ⟨⟨cd_yX11_row, ii_RX11, ⟨by decide +kernel, by decide +kernel⟩, by decide +kernel, by decide⟩, im_yX11_row, sl_yX11_row⟩
theorem mX8_holdRow : MOKv yX8_holdRow cX8_holdRow 5 none 3 := ⟨⟨cd_yX8_holdRow, ii_RX8, ⟨by decide +kernel, by decide +kernel⟩, by decide +kernel, by decide⟩, im_yX8_holdRow, sl_yX8_holdRow⟩
theorem mX12_row : MOKv yX12_row cX12_row 5 (some .int) 3 := ⟨⟨cd_yX12_row, ii_RX12, ⟨by decide +kernel, by decide +kernel⟩, by decide +kernel, by decide⟩, im_yX12_row, sl_yX12_row⟩
theorem mX11_put : MOKv yX11_put cX11_put 6 (some .int) 3 := ⟨⟨cd_yX11_put, ii_RX11, ⟨by decide +kernel, by decide +kernel⟩, by decide +kernel, by decide⟩, im_yX11_put, sl_yX11_put⟩
theorem mX8_refuses : MOKv yX8_refuses cX8_refuses 3 (some .int) 2 := ⟨⟨cd_yX8_refuses, ii_RX8, ⟨by decide +kernel, by decide +kernel⟩, by decide +kernel, by decide⟩, im_yX8_refuses, sl_yX8_refuses⟩
theorem mX8_reaches : MOKv yX8_reaches cX8_reaches 4 (some .boolean) 3 := ⟨⟨cd_yX8_reaches, ii_RX8, ⟨by decide +kernel, by decide +kernel⟩, by decide +kernel, by decide⟩, im_yX8_reaches, sl_yX8_reaches⟩
theorem mX8_lowest : MOKs yX8_lowest cX8_lowest 3 (some .long) 2 := ⟨⟨cd_yX8_lowest, ii_RX8, ⟨by decide +kernel, by decide +kernel⟩, by decide +kernel, by decide⟩, st_yX8_lowest⟩
theorem mX12_put : MOKv yX12_put cX12_put 6 (some .int) 3 := ⟨⟨cd_yX12_put, ii_RX12, ⟨by decide +kernel, by decide +kernel⟩, by decide +kernel, by decide⟩, im_yX12_put, sl_yX12_put⟩
theorem mX12_why : MOKv yX12_why cX12_why 3 (some .int) 2 := ⟨⟨cd_yX12_why, ii_RX12, ⟨by decide +kernel, by decide +kernel⟩, by decide +kernel, by decide⟩, im_yX12_why, sl_yX12_why⟩
theorem mX12_kept : MOKs yX12_kept cX12_kept 3 (some .long) 2 := ⟨⟨cd_yX12_kept, ii_RX12, ⟨by decide +kernel, by decide +kernel⟩, by decide +kernel, by decide⟩, st_yX12_kept⟩
theorem mX11_element : MOKv yX11_element cX11_element 3 (some .long) 2 := ⟨⟨cd_yX11_element, ii_RX11, ⟨by decide +kernel, by decide +kernel⟩, by decide +kernel, by decide⟩, im_yX11_element, sl_yX11_element⟩
theorem mX12_element : MOKv yX12_element cX12_element 3 (some .long) 2 := ⟨⟨cd_yX12_element, ii_RX12, ⟨by decide +kernel, by decide +kernel⟩, by decide +kernel, by decide⟩, im_yX12_element, sl_yX12_element⟩
theorem mX11_shift : MOKv yX11_shift cX11_shift 8 (some .int) 5 := ⟨⟨cd_yX11_shift, ii_RX11, ⟨by decide +kernel, by decide +kernel⟩, by decide +kernel, by decide⟩, im_yX11_shift, sl_yX11_shift⟩
theorem mX12_shift : MOKv yX12_shift cX12_shift 7 (some .int) 5 := ⟨⟨cd_yX12_shift, ii_RX12, ⟨by decide +kernel, by decide +kernel⟩, by decide +kernel, by decide⟩, im_yX12_shift, sl_yX12_shift⟩
theorem mX11_taken : MOKv yX11_taken cX11_taken 4 (some .int) 2 := ⟨⟨cd_yX11_taken, ii_RX11, ⟨by decide +kernel, by decide +kernel⟩, by decide +kernel, by decide⟩, im_yX11_taken, sl_yX11_taken⟩
theorem mX0_isUnder : MOKs yX0_isUnder cX0_isUnder 4 (some .boolean) 2 := ⟨⟨cd_yX0_isUnder, ii_RX0, ⟨by decide +kernel, by decide +kernel⟩, by decide +kernel, by decide⟩, st_yX0_isUnder⟩
theorem mX12_taken : MOKv yX12_taken cX12_taken 5 (some .int) 2 := ⟨⟨cd_yX12_taken, ii_RX12, ⟨by decide +kernel, by decide +kernel⟩, by decide +kernel, by decide⟩, im_yX12_taken, sl_yX12_taken⟩
theorem mX12_above : MOKs yX12_above cX12_above 1 (some .int) 1 := ⟨⟨cd_yX12_above, ii_RX12, ⟨by decide +kernel, by decide +kernel⟩, by decide +kernel, by decide⟩, st_yX12_above⟩
theorem mX11_count : MOKv yX11_count cX11_count 2 (some .int) 1 := ⟨⟨cd_yX11_count, ii_RX11, ⟨by decide +kernel, by decide +kernel⟩, by decide +kernel, by decide⟩, im_yX11_count, sl_yX11_count⟩
theorem mX12_count : MOKv yX12_count cX12_count 2 (some .int) 1 := ⟨⟨cd_yX12_count, ii_RX12, ⟨by decide +kernel, by decide +kernel⟩, by decide +kernel, by decide⟩, im_yX12_count, sl_yX12_count⟩
section AWN
variable {K : KT} {X : XT} {own : String} {cc : ByteArray} {nL : Nat} {ret : Option FieldType} {dep pc pc' : Nat} {ls : List (Option AV)} {st : List AV} {h : Hp}
theorem AW.invN1 {y : MethodName} {cc' : ByteArray} {nL' : Nat} {ret' : Option FieldType} {dep' idx : Nat} {a1 v : AV} {hf : Hp} (hd : decode cc pc = .ok (.invokestatic idx, 3)) (hl : (own, idx, y) ∈ nestW) (hm : MOKs y cc' nL' ret' 1) (hM : AM K y cc' nL' ret' dep' [a1] h (some v) hf) (kk : AW K X own cc nL ret dep pc' ls (v :: st) hf) (hw : stw st ≤ 8 := by exact Nat.le_of_ble_eq_true rfl) (hdep : dep' + 1 ≤ dep := by omega) (hp : pc + 3 = pc' := by rfl) : AW K X own cc nL ret dep pc ls (a1 :: st) h := by
  subst hp
  exact invn_x (as := [a1]) hd hl hm rfl hM hw hdep (fun _ e => e ▸ kk)
theorem AW.invN2 {y : MethodName} {cc' : ByteArray} {nL' : Nat} {ret' : Option FieldType} {dep' idx : Nat} {a1 a2 v : AV} {hf : Hp} (hd : decode cc pc = .ok (.invokestatic idx, 3)) (hl : (own, idx, y) ∈ nestW) (hm : MOKs y cc' nL' ret' 2) (hM : AM K y cc' nL' ret' dep' [a1, a2] h (some v) hf) (kk : AW K X own cc nL ret dep pc' ls (v :: st) hf) (hw : stw st ≤ 8 := by exact Nat.le_of_ble_eq_true rfl) (hdep : dep' + 1 ≤ dep := by omega) (hp : pc + 3 = pc' := by rfl) : AW K X own cc nL ret dep pc ls (a2 :: a1 :: st) h := by
  subst hp
  exact invn_x (as := [a1, a2]) hd hl hm rfl hM hw hdep (fun _ e => e ▸ kk)
theorem AW.invN3 {y : MethodName} {cc' : ByteArray} {nL' : Nat} {ret' : Option FieldType} {dep' idx : Nat} {a1 a2 a3 v : AV} {hf : Hp} (hd : decode cc pc = .ok (.invokestatic idx, 3)) (hl : (own, idx, y) ∈ nestW) (hm : MOKs y cc' nL' ret' 3) (hM : AM K y cc' nL' ret' dep' [a1, a2, a3] h (some v) hf) (kk : AW K X own cc nL ret dep pc' ls (v :: st) hf) (hw : stw st ≤ 8 := by exact Nat.le_of_ble_eq_true rfl) (hdep : dep' + 1 ≤ dep := by omega) (hp : pc + 3 = pc' := by rfl) : AW K X own cc nL ret dep pc ls (a3 :: a2 :: a1 :: st) h := by
  subst hp
  exact invn_x (as := [a1, a2, a3]) hd hl hm rfl hM hw hdep (fun _ e => e ▸ kk)
theorem AW.invN4 {y : MethodName} {cc' : ByteArray} {nL' : Nat} {ret' : Option FieldType} {dep' idx : Nat} {a1 a2 a3 a4 v : AV} {hf : Hp} (hd : decode cc pc = .ok (.invokestatic idx, 3)) (hl : (own, idx, y) ∈ nestW) (hm : MOKs y cc' nL' ret' 4) (hM : AM K y cc' nL' ret' dep' [a1, a2, a3, a4] h (some v) hf) (kk : AW K X own cc nL ret dep pc' ls (v :: st) hf) (hw : stw st ≤ 8 := by exact Nat.le_of_ble_eq_true rfl) (hdep : dep' + 1 ≤ dep := by omega) (hp : pc + 3 = pc' := by rfl) : AW K X own cc nL ret dep pc ls (a4 :: a3 :: a2 :: a1 :: st) h := by
  subst hp
  exact invn_x (as := [a1, a2, a3, a4]) hd hl hm rfl hM hw hdep (fun _ e => e ▸ kk)
theorem AW.invT0 {y : MethodName} {cc' : ByteArray} {nL' : Nat} {ret' : Option FieldType} {dep' idx : Nat} {v : AV} {hf : Hp} (hd : decode cc pc = .ok (.invokevirtual idx, 3)) (hl : Cond.methodLink own idx y ∈ wsL_law) (hm : MOKv y cc' nL' ret' 0) (hc : y.cls = "java/lang/String") (hM : AM K y cc' nL' ret' dep' (vR 1002 :: []) h (some v) hf) (kk : AW K X own cc nL ret dep pc' ls (v :: st) hf) (hw : stw st ≤ 8 := by exact Nat.le_of_ble_eq_true rfl) (hdep : dep' + 1 ≤ dep := by omega) (hp : pc + 3 = pc' := by rfl) : AW K X own cc nL ret dep pc ls (vR 1002 :: st) h := by
  subst hp
  exact inv_s (as := []) hd hl hm hc rfl hM hw hdep (fun _ e => e ▸ kk)
theorem AW.invT1 {y : MethodName} {cc' : ByteArray} {nL' : Nat} {ret' : Option FieldType} {dep' idx : Nat} {a1 v : AV} {hf : Hp} (hd : decode cc pc = .ok (.invokevirtual idx, 3)) (hl : Cond.methodLink own idx y ∈ wsL_law) (hm : MOKv y cc' nL' ret' 1) (hc : y.cls = "java/lang/String") (hM : AM K y cc' nL' ret' dep' (vR 1002 :: [a1]) h (some v) hf) (kk : AW K X own cc nL ret dep pc' ls (v :: st) hf) (hw : stw st ≤ 8 := by exact Nat.le_of_ble_eq_true rfl) (hdep : dep' + 1 ≤ dep := by omega) (hp : pc + 3 = pc' := by rfl) : AW K X own cc nL ret dep pc ls (a1 :: vR 1002 :: st) h := by
  subst hp
  exact inv_s (as := [a1]) hd hl hm hc rfl hM hw hdep (fun _ e => e ▸ kk)
theorem AW.invT2 {y : MethodName} {cc' : ByteArray} {nL' : Nat} {ret' : Option FieldType} {dep' idx : Nat} {a1 a2 v : AV} {hf : Hp} (hd : decode cc pc = .ok (.invokevirtual idx, 3)) (hl : Cond.methodLink own idx y ∈ wsL_law) (hm : MOKv y cc' nL' ret' 2) (hc : y.cls = "java/lang/String") (hM : AM K y cc' nL' ret' dep' (vR 1002 :: [a1, a2]) h (some v) hf) (kk : AW K X own cc nL ret dep pc' ls (v :: st) hf) (hw : stw st ≤ 8 := by exact Nat.le_of_ble_eq_true rfl) (hdep : dep' + 1 ≤ dep := by omega) (hp : pc + 3 = pc' := by rfl) : AW K X own cc nL ret dep pc ls (a2 :: a1 :: vR 1002 :: st) h := by
  subst hp
  exact inv_s (as := [a1, a2]) hd hl hm hc rfl hM hw hdep (fun _ e => e ▸ kk)
theorem AW.mmax {a b : Int} {idx : Nat} (hd : decode cc pc = .ok (.invokestatic idx, 3)) (hl : Cond.methodLink own idx Lib.Math.max.name ∈ wsL_law) (ha : inI a) (hb : inI b) (k : AW K X own cc nL ret dep pc' ls (vI (if a < b then b else a) :: st) h) (hw : stw st ≤ 8 := by exact Nat.le_of_ble_eq_true rfl) (hdep : 1 ≤ dep := by omega) (hp : pc + 3 = pc' := by rfl) : AW K X own cc nL ret dep pc ls (vI b :: vI a :: st) h := by
  subst hp
  intro p e R s m args below meth c H locs lsA C Wx q
  obtain ⟨hx, hb', hre, hml, hown, hts, hlk, g1, g2, g3, g4, hD, hA, hK, hS⟩ := id C
  have w := k p e R s m args below meth c H locs lsA C Wx q
  simp only [List.map, cv] at w ⊢
  have e2 := stw_cv (ad := K.2.2.1) st
  refine va_mmax hx hb' (by rw [hml]; exact q.1.symm) hown (hts _ hl) (hts _ st_Lib_Math_max_name) (hts _ ii__java_lang_Math_) (hts _ cd_Lib_Math_max_name) (by omega) (by omega) g3 g4 hd ?_
  by_cases z : a < b
  · rw [if_pos z] at w
    rw [if_pos ((i32lt ha hb).mpr z)]
    exact w
  · rw [if_neg z] at w
    rw [if_neg (fun y => z ((i32lt ha hb).mp y))]
    exact w
theorem AW.mmin {a b : Int} {idx : Nat} (hd : decode cc pc = .ok (.invokestatic idx, 3)) (hl : Cond.methodLink own idx Lib.Math.min.name ∈ wsL_law) (ha : inI a) (hb : inI b) (k : AW K X own cc nL ret dep pc' ls (vI (if b < a then b else a) :: st) h) (hw : stw st ≤ 8 := by exact Nat.le_of_ble_eq_true rfl) (hdep : 1 ≤ dep := by omega) (hp : pc + 3 = pc' := by rfl) : AW K X own cc nL ret dep pc ls (vI b :: vI a :: st) h := by
  subst hp
  intro p e R s m args below meth c H locs lsA C Wx q
  obtain ⟨hx, hb', hre, hml, hown, hts, hlk, g1, g2, g3, g4, hD, hA, hK, hS⟩ := id C
  have w := k p e R s m args below meth c H locs lsA C Wx q
  simp only [List.map, cv] at w ⊢
  have e2 := stw_cv (ad := K.2.2.1) st
  refine va_mmin hx hb' (by rw [hml]; exact q.1.symm) hown (hts _ hl) (hts _ st_Lib_Math_min_name) (hts _ ii__java_lang_Math_) (hts _ cd_Lib_Math_min_name) (by omega) (by omega) g3 g4 hd ?_
  by_cases z : b < a
  · rw [if_pos z] at w
    rw [if_pos ((i32lt hb ha).mpr z)]
    exact w
  · rw [if_neg z] at w
    rw [if_neg (fun y => z ((i32lt hb ha).mp y))]
    exact w
end AWN
theorem LSub.c {a b : AV} {r q : List (Option AV)} (h : a = b) (t : LSub r q) : LSub (some a :: r) (some b :: q) := ⟨h, t⟩
theorem LSub.n {w : Option AV} {r q : List (Option AV)} (t : LSub r q) : LSub (none :: r) (w :: q) := by cases w <;> exact t
theorem LSub.e {q : List (Option AV)} : LSub [] q := by cases q <;> trivial
/-- n steps from k on -/
def lp {S : Type} (f : Nat → S → S) : Nat → Nat → S → S
  | 0, _, s => s
  | n + 1, k, s => lp f n (k + 1) (f k s)
theorem b2_01 (P : Prop) [Decidable P] : b2 P = 0 ∨ b2 P = 1 := by unfold b2; split <;> simp
theorem hset_app (h : Hp) (k j : Nat) (v : Int) (a b : Nat) : hset h k j v a b = if a = k ∧ b = j then v else h a b := rfl
section AWS
variable {K : KT} {X : XT} {own : String} {cc : ByteArray} {nL : Nat} {ret : Option FieldType} {dep pc pc' : Nat} {st : List AV} {h : Hp} {r : List (Option AV)}
theorem AW.istore0n {v : Int} {x0 : Option AV} (hd : decode cc pc = .ok (.istore_n 0, 1)) (hn : 1 ≤ nL) (hok : okl (x0 :: r) 0 = true) (k : AW K X own cc nL ret dep pc' (some (vI v) :: r) st h) (hp : pc + 1 = pc' := by rfl) : AW K X own cc nL ret dep pc (x0 :: r) (vI v :: st) h := AW.istore_n hd rfl hn hok rfl k hp
theorem AW.istore0 {v : Int} {x0 : Option AV} (hd : decode cc pc = .ok (.istore 0, 2)) (hn : 1 ≤ nL) (hok : okl (x0 :: r) 0 = true) (k : AW K X own cc nL ret dep pc' (some (vI v) :: r) st h) (hp : pc + 2 = pc' := by rfl) : AW K X own cc nL ret dep pc (x0 :: r) (vI v :: st) h := AW.istore hd hn hok rfl k hp
theorem AW.astore0n {v : Nat} {x0 : Option AV} (hd : decode cc pc = .ok (.astore_n 0, 1)) (hn : 1 ≤ nL) (hok : okl (x0 :: r) 0 = true) (k : AW K X own cc nL ret dep pc' (some (vR v) :: r) st h) (hp : pc + 1 = pc' := by rfl) : AW K X own cc nL ret dep pc (x0 :: r) (vR v :: st) h := AW.astore_n hd rfl hn hok rfl k hp
theorem AW.astore0 {v : Nat} {x0 : Option AV} (hd : decode cc pc = .ok (.astore 0, 2)) (hn : 1 ≤ nL) (hok : okl (x0 :: r) 0 = true) (k : AW K X own cc nL ret dep pc' (some (vR v) :: r) st h) (hp : pc + 2 = pc' := by rfl) : AW K X own cc nL ret dep pc (x0 :: r) (vR v :: st) h := AW.astore hd hn hok rfl k hp
theorem AW.lstore0n {v : Int} {x0 x1 : Option AV} (hd : decode cc pc = .ok (.lstore_n 0, 1)) (hn : 2 ≤ nL) (hok : okl (x0 :: x1 :: r) 0 = true) (k : AW K X own cc nL ret dep pc' (some (vL v) :: none :: r) st h) (hp : pc + 1 = pc' := by rfl) : AW K X own cc nL ret dep pc (x0 :: x1 :: r) (vL v :: st) h := AW.lstore_n hd rfl hn hok rfl k hp
theorem AW.lstore0 {v : Int} {x0 x1 : Option AV} (hd : decode cc pc = .ok (.lstore 0, 2)) (hn : 2 ≤ nL) (hok : okl (x0 :: x1 :: r) 0 = true) (k : AW K X own cc nL ret dep pc' (some (vL v) :: none :: r) st h) (hp : pc + 2 = pc' := by rfl) : AW K X own cc nL ret dep pc (x0 :: x1 :: r) (vL v :: st) h := AW.lstore hd hn hok rfl k hp
theorem AW.iinc0 {v n : Int} {x0 : Option AV} (hd : decode cc pc = .ok (.iinc 0 n, 3)) (hn : 1 ≤ nL) (hok : okl (some (vI v) :: r) 0 = true) (k : AW K X own cc nL ret dep pc' (some (vI (v + n)) :: r) st h) (hp : pc + 3 = pc' := by rfl) : AW K X own cc nL ret dep pc (some (vI v) :: r) st h := AW.iinc hd rfl hn hok rfl k hp
theorem AW.istore1n {v : Int} {x0 x1 : Option AV} (hd : decode cc pc = .ok (.istore_n 1, 1)) (hn : 2 ≤ nL) (hok : okl (x0 :: x1 :: r) 1 = true) (k : AW K X own cc nL ret dep pc' (x0 :: some (vI v) :: r) st h) (hp : pc + 1 = pc' := by rfl) : AW K X own cc nL ret dep pc (x0 :: x1 :: r) (vI v :: st) h := AW.istore_n hd rfl hn hok rfl k hp
theorem AW.istore1 {v : Int} {x0 x1 : Option AV} (hd : decode cc pc = .ok (.istore 1, 2)) (hn : 2 ≤ nL) (hok : okl (x0 :: x1 :: r) 1 = true) (k : AW K X own cc nL ret dep pc' (x0 :: some (vI v) :: r) st h) (hp : pc + 2 = pc' := by rfl) : AW K X own cc nL ret dep pc (x0 :: x1 :: r) (vI v :: st) h := AW.istore hd hn hok rfl k hp
theorem AW.astore1n {v : Nat} {x0 x1 : Option AV} (hd : decode cc pc = .ok (.astore_n 1, 1)) (hn : 2 ≤ nL) (hok : okl (x0 :: x1 :: r) 1 = true) (k : AW K X own cc nL ret dep pc' (x0 :: some (vR v) :: r) st h) (hp : pc + 1 = pc' := by rfl) : AW K X own cc nL ret dep pc (x0 :: x1 :: r) (vR v :: st) h := AW.astore_n hd rfl hn hok rfl k hp
theorem AW.astore1 {v : Nat} {x0 x1 : Option AV} (hd : decode cc pc = .ok (.astore 1, 2)) (hn : 2 ≤ nL) (hok : okl (x0 :: x1 :: r) 1 = true) (k : AW K X own cc nL ret dep pc' (x0 :: some (vR v) :: r) st h) (hp : pc + 2 = pc' := by rfl) : AW K X own cc nL ret dep pc (x0 :: x1 :: r) (vR v :: st) h := AW.astore hd hn hok rfl k hp
theorem AW.lstore1n {v : Int} {x0 x1 x2 : Option AV} (hd : decode cc pc = .ok (.lstore_n 1, 1)) (hn : 3 ≤ nL) (hok : okl (x0 :: x1 :: x2 :: r) 1 = true) (k : AW K X own cc nL ret dep pc' (x0 :: some (vL v) :: none :: r) st h) (hp : pc + 1 = pc' := by rfl) : AW K X own cc nL ret dep pc (x0 :: x1 :: x2 :: r) (vL v :: st) h := AW.lstore_n hd rfl hn hok rfl k hp
theorem AW.lstore1 {v : Int} {x0 x1 x2 : Option AV} (hd : decode cc pc = .ok (.lstore 1, 2)) (hn : 3 ≤ nL) (hok : okl (x0 :: x1 :: x2 :: r) 1 = true) (k : AW K X own cc nL ret dep pc' (x0 :: some (vL v) :: none :: r) st h) (hp : pc + 2 = pc' := by rfl) : AW K X own cc nL ret dep pc (x0 :: x1 :: x2 :: r) (vL v :: st) h := AW.lstore hd hn hok rfl k hp
theorem AW.iinc1 {v n : Int} {x0 : Option AV} (hd : decode cc pc = .ok (.iinc 1 n, 3)) (hn : 2 ≤ nL) (hok : okl (x0 :: some (vI v) :: r) 1 = true) (k : AW K X own cc nL ret dep pc' (x0 :: some (vI (v + n)) :: r) st h) (hp : pc + 3 = pc' := by rfl) : AW K X own cc nL ret dep pc (x0 :: some (vI v) :: r) st h := AW.iinc hd rfl hn hok rfl k hp
theorem AW.istore2n {v : Int} {x0 x1 x2 : Option AV} (hd : decode cc pc = .ok (.istore_n 2, 1)) (hn : 3 ≤ nL) (hok : okl (x0 :: x1 :: x2 :: r) 2 = true) (k : AW K X own cc nL ret dep pc' (x0 :: x1 :: some (vI v) :: r) st h) (hp : pc + 1 = pc' := by rfl) : AW K X own cc nL ret dep pc (x0 :: x1 :: x2 :: r) (vI v :: st) h := AW.istore_n hd rfl hn hok rfl k hp
theorem AW.istore2 {v : Int} {x0 x1 x2 : Option AV} (hd : decode cc pc = .ok (.istore 2, 2)) (hn : 3 ≤ nL) (hok : okl (x0 :: x1 :: x2 :: r) 2 = true) (k : AW K X own cc nL ret dep pc' (x0 :: x1 :: some (vI v) :: r) st h) (hp : pc + 2 = pc' := by rfl) : AW K X own cc nL ret dep pc (x0 :: x1 :: x2 :: r) (vI v :: st) h := AW.istore hd hn hok rfl k hp
theorem AW.astore2n {v : Nat} {x0 x1 x2 : Option AV} (hd : decode cc pc = .ok (.astore_n 2, 1)) (hn : 3 ≤ nL) (hok : okl (x0 :: x1 :: x2 :: r) 2 = true) (k : AW K X own cc nL ret dep pc' (x0 :: x1 :: some (vR v) :: r) st h) (hp : pc + 1 = pc' := by rfl) : AW K X own cc nL ret dep pc (x0 :: x1 :: x2 :: r) (vR v :: st) h := AW.astore_n hd rfl hn hok rfl k hp
theorem AW.astore2 {v : Nat} {x0 x1 x2 : Option AV} (hd : decode cc pc = .ok (.astore 2, 2)) (hn : 3 ≤ nL) (hok : okl (x0 :: x1 :: x2 :: r) 2 = true) (k : AW K X own cc nL ret dep pc' (x0 :: x1 :: some (vR v) :: r) st h) (hp : pc + 2 = pc' := by rfl) : AW K X own cc nL ret dep pc (x0 :: x1 :: x2 :: r) (vR v :: st) h := AW.astore hd hn hok rfl k hp
theorem AW.lstore2n {v : Int} {x0 x1 x2 x3 : Option AV} (hd : decode cc pc = .ok (.lstore_n 2, 1)) (hn : 4 ≤ nL) (hok : okl (x0 :: x1 :: x2 :: x3 :: r) 2 = true) (k : AW K X own cc nL ret dep pc' (x0 :: x1 :: some (vL v) :: none :: r) st h) (hp : pc + 1 = pc' := by rfl) : AW K X own cc nL ret dep pc (x0 :: x1 :: x2 :: x3 :: r) (vL v :: st) h := AW.lstore_n hd rfl hn hok rfl k hp
theorem AW.lstore2 {v : Int} {x0 x1 x2 x3 : Option AV} (hd : decode cc pc = .ok (.lstore 2, 2)) (hn : 4 ≤ nL) (hok : okl (x0 :: x1 :: x2 :: x3 :: r) 2 = true) (k : AW K X own cc nL ret dep pc' (x0 :: x1 :: some (vL v) :: none :: r) st h) (hp : pc + 2 = pc' := by rfl) : AW K X own cc nL ret dep pc (x0 :: x1 :: x2 :: x3 :: r) (vL v :: st) h := AW.lstore hd hn hok rfl k hp
theorem AW.iinc2 {v n : Int} {x0 x1 : Option AV} (hd : decode cc pc = .ok (.iinc 2 n, 3)) (hn : 3 ≤ nL) (hok : okl (x0 :: x1 :: some (vI v) :: r) 2 = true) (k : AW K X own cc nL ret dep pc' (x0 :: x1 :: some (vI (v + n)) :: r) st h) (hp : pc + 3 = pc' := by rfl) : AW K X own cc nL ret dep pc (x0 :: x1 :: some (vI v) :: r) st h := AW.iinc hd rfl hn hok rfl k hp
theorem AW.istore3n {v : Int} {x0 x1 x2 x3 : Option AV} (hd : decode cc pc = .ok (.istore_n 3, 1)) (hn : 4 ≤ nL) (hok : okl (x0 :: x1 :: x2 :: x3 :: r) 3 = true) (k : AW K X own cc nL ret dep pc' (x0 :: x1 :: x2 :: some (vI v) :: r) st h) (hp : pc + 1 = pc' := by rfl) : AW K X own cc nL ret dep pc (x0 :: x1 :: x2 :: x3 :: r) (vI v :: st) h := AW.istore_n hd rfl hn hok rfl k hp
theorem AW.istore3 {v : Int} {x0 x1 x2 x3 : Option AV} (hd : decode cc pc = .ok (.istore 3, 2)) (hn : 4 ≤ nL) (hok : okl (x0 :: x1 :: x2 :: x3 :: r) 3 = true) (k : AW K X own cc nL ret dep pc' (x0 :: x1 :: x2 :: some (vI v) :: r) st h) (hp : pc + 2 = pc' := by rfl) : AW K X own cc nL ret dep pc (x0 :: x1 :: x2 :: x3 :: r) (vI v :: st) h := AW.istore hd hn hok rfl k hp
theorem AW.astore3n {v : Nat} {x0 x1 x2 x3 : Option AV} (hd : decode cc pc = .ok (.astore_n 3, 1)) (hn : 4 ≤ nL) (hok : okl (x0 :: x1 :: x2 :: x3 :: r) 3 = true) (k : AW K X own cc nL ret dep pc' (x0 :: x1 :: x2 :: some (vR v) :: r) st h) (hp : pc + 1 = pc' := by rfl) : AW K X own cc nL ret dep pc (x0 :: x1 :: x2 :: x3 :: r) (vR v :: st) h := AW.astore_n hd rfl hn hok rfl k hp
theorem AW.astore3 {v : Nat} {x0 x1 x2 x3 : Option AV} (hd : decode cc pc = .ok (.astore 3, 2)) (hn : 4 ≤ nL) (hok : okl (x0 :: x1 :: x2 :: x3 :: r) 3 = true) (k : AW K X own cc nL ret dep pc' (x0 :: x1 :: x2 :: some (vR v) :: r) st h) (hp : pc + 2 = pc' := by rfl) : AW K X own cc nL ret dep pc (x0 :: x1 :: x2 :: x3 :: r) (vR v :: st) h := AW.astore hd hn hok rfl k hp
theorem AW.lstore3n {v : Int} {x0 x1 x2 x3 x4 : Option AV} (hd : decode cc pc = .ok (.lstore_n 3, 1)) (hn : 5 ≤ nL) (hok : okl (x0 :: x1 :: x2 :: x3 :: x4 :: r) 3 = true) (k : AW K X own cc nL ret dep pc' (x0 :: x1 :: x2 :: some (vL v) :: none :: r) st h) (hp : pc + 1 = pc' := by rfl) : AW K X own cc nL ret dep pc (x0 :: x1 :: x2 :: x3 :: x4 :: r) (vL v :: st) h := AW.lstore_n hd rfl hn hok rfl k hp
theorem AW.lstore3 {v : Int} {x0 x1 x2 x3 x4 : Option AV} (hd : decode cc pc = .ok (.lstore 3, 2)) (hn : 5 ≤ nL) (hok : okl (x0 :: x1 :: x2 :: x3 :: x4 :: r) 3 = true) (k : AW K X own cc nL ret dep pc' (x0 :: x1 :: x2 :: some (vL v) :: none :: r) st h) (hp : pc + 2 = pc' := by rfl) : AW K X own cc nL ret dep pc (x0 :: x1 :: x2 :: x3 :: x4 :: r) (vL v :: st) h := AW.lstore hd hn hok rfl k hp
theorem AW.iinc3 {v n : Int} {x0 x1 x2 : Option AV} (hd : decode cc pc = .ok (.iinc 3 n, 3)) (hn : 4 ≤ nL) (hok : okl (x0 :: x1 :: x2 :: some (vI v) :: r) 3 = true) (k : AW K X own cc nL ret dep pc' (x0 :: x1 :: x2 :: some (vI (v + n)) :: r) st h) (hp : pc + 3 = pc' := by rfl) : AW K X own cc nL ret dep pc (x0 :: x1 :: x2 :: some (vI v) :: r) st h := AW.iinc hd rfl hn hok rfl k hp
theorem AW.istore4 {v : Int} {x0 x1 x2 x3 x4 : Option AV} (hd : decode cc pc = .ok (.istore 4, 2)) (hn : 5 ≤ nL) (hok : okl (x0 :: x1 :: x2 :: x3 :: x4 :: r) 4 = true) (k : AW K X own cc nL ret dep pc' (x0 :: x1 :: x2 :: x3 :: some (vI v) :: r) st h) (hp : pc + 2 = pc' := by rfl) : AW K X own cc nL ret dep pc (x0 :: x1 :: x2 :: x3 :: x4 :: r) (vI v :: st) h := AW.istore hd hn hok rfl k hp
theorem AW.astore4 {v : Nat} {x0 x1 x2 x3 x4 : Option AV} (hd : decode cc pc = .ok (.astore 4, 2)) (hn : 5 ≤ nL) (hok : okl (x0 :: x1 :: x2 :: x3 :: x4 :: r) 4 = true) (k : AW K X own cc nL ret dep pc' (x0 :: x1 :: x2 :: x3 :: some (vR v) :: r) st h) (hp : pc + 2 = pc' := by rfl) : AW K X own cc nL ret dep pc (x0 :: x1 :: x2 :: x3 :: x4 :: r) (vR v :: st) h := AW.astore hd hn hok rfl k hp
theorem AW.lstore4 {v : Int} {x0 x1 x2 x3 x4 x5 : Option AV} (hd : decode cc pc = .ok (.lstore 4, 2)) (hn : 6 ≤ nL) (hok : okl (x0 :: x1 :: x2 :: x3 :: x4 :: x5 :: r) 4 = true) (k : AW K X own cc nL ret dep pc' (x0 :: x1 :: x2 :: x3 :: some (vL v) :: none :: r) st h) (hp : pc + 2 = pc' := by rfl) : AW K X own cc nL ret dep pc (x0 :: x1 :: x2 :: x3 :: x4 :: x5 :: r) (vL v :: st) h := AW.lstore hd hn hok rfl k hp
theorem AW.iinc4 {v n : Int} {x0 x1 x2 x3 : Option AV} (hd : decode cc pc = .ok (.iinc 4 n, 3)) (hn : 5 ≤ nL) (hok : okl (x0 :: x1 :: x2 :: x3 :: some (vI v) :: r) 4 = true) (k : AW K X own cc nL ret dep pc' (x0 :: x1 :: x2 :: x3 :: some (vI (v + n)) :: r) st h) (hp : pc + 3 = pc' := by rfl) : AW K X own cc nL ret dep pc (x0 :: x1 :: x2 :: x3 :: some (vI v) :: r) st h := AW.iinc hd rfl hn hok rfl k hp
theorem AW.istore5 {v : Int} {x0 x1 x2 x3 x4 x5 : Option AV} (hd : decode cc pc = .ok (.istore 5, 2)) (hn : 6 ≤ nL) (hok : okl (x0 :: x1 :: x2 :: x3 :: x4 :: x5 :: r) 5 = true) (k : AW K X own cc nL ret dep pc' (x0 :: x1 :: x2 :: x3 :: x4 :: some (vI v) :: r) st h) (hp : pc + 2 = pc' := by rfl) : AW K X own cc nL ret dep pc (x0 :: x1 :: x2 :: x3 :: x4 :: x5 :: r) (vI v :: st) h := AW.istore hd hn hok rfl k hp
theorem AW.astore5 {v : Nat} {x0 x1 x2 x3 x4 x5 : Option AV} (hd : decode cc pc = .ok (.astore 5, 2)) (hn : 6 ≤ nL) (hok : okl (x0 :: x1 :: x2 :: x3 :: x4 :: x5 :: r) 5 = true) (k : AW K X own cc nL ret dep pc' (x0 :: x1 :: x2 :: x3 :: x4 :: some (vR v) :: r) st h) (hp : pc + 2 = pc' := by rfl) : AW K X own cc nL ret dep pc (x0 :: x1 :: x2 :: x3 :: x4 :: x5 :: r) (vR v :: st) h := AW.astore hd hn hok rfl k hp
theorem AW.lstore5 {v : Int} {x0 x1 x2 x3 x4 x5 x6 : Option AV} (hd : decode cc pc = .ok (.lstore 5, 2)) (hn : 7 ≤ nL) (hok : okl (x0 :: x1 :: x2 :: x3 :: x4 :: x5 :: x6 :: r) 5 = true) (k : AW K X own cc nL ret dep pc' (x0 :: x1 :: x2 :: x3 :: x4 :: some (vL v) :: none :: r) st h) (hp : pc + 2 = pc' := by rfl) : AW K X own cc nL ret dep pc (x0 :: x1 :: x2 :: x3 :: x4 :: x5 :: x6 :: r) (vL v :: st) h := AW.lstore hd hn hok rfl k hp
theorem AW.iinc5 {v n : Int} {x0 x1 x2 x3 x4 : Option AV} (hd : decode cc pc = .ok (.iinc 5 n, 3)) (hn : 6 ≤ nL) (hok : okl (x0 :: x1 :: x2 :: x3 :: x4 :: some (vI v) :: r) 5 = true) (k : AW K X own cc nL ret dep pc' (x0 :: x1 :: x2 :: x3 :: x4 :: some (vI (v + n)) :: r) st h) (hp : pc + 3 = pc' := by rfl) : AW K X own cc nL ret dep pc (x0 :: x1 :: x2 :: x3 :: x4 :: some (vI v) :: r) st h := AW.iinc hd rfl hn hok rfl k hp
theorem AW.istore6 {v : Int} {x0 x1 x2 x3 x4 x5 x6 : Option AV} (hd : decode cc pc = .ok (.istore 6, 2)) (hn : 7 ≤ nL) (hok : okl (x0 :: x1 :: x2 :: x3 :: x4 :: x5 :: x6 :: r) 6 = true) (k : AW K X own cc nL ret dep pc' (x0 :: x1 :: x2 :: x3 :: x4 :: x5 :: some (vI v) :: r) st h) (hp : pc + 2 = pc' := by rfl) : AW K X own cc nL ret dep pc (x0 :: x1 :: x2 :: x3 :: x4 :: x5 :: x6 :: r) (vI v :: st) h := AW.istore hd hn hok rfl k hp
theorem AW.astore6 {v : Nat} {x0 x1 x2 x3 x4 x5 x6 : Option AV} (hd : decode cc pc = .ok (.astore 6, 2)) (hn : 7 ≤ nL) (hok : okl (x0 :: x1 :: x2 :: x3 :: x4 :: x5 :: x6 :: r) 6 = true) (k : AW K X own cc nL ret dep pc' (x0 :: x1 :: x2 :: x3 :: x4 :: x5 :: some (vR v) :: r) st h) (hp : pc + 2 = pc' := by rfl) : AW K X own cc nL ret dep pc (x0 :: x1 :: x2 :: x3 :: x4 :: x5 :: x6 :: r) (vR v :: st) h := AW.astore hd hn hok rfl k hp
theorem AW.lstore6 {v : Int} {x0 x1 x2 x3 x4 x5 x6 x7 : Option AV} (hd : decode cc pc = .ok (.lstore 6, 2)) (hn : 8 ≤ nL) (hok : okl (x0 :: x1 :: x2 :: x3 :: x4 :: x5 :: x6 :: x7 :: r) 6 = true) (k : AW K X own cc nL ret dep pc' (x0 :: x1 :: x2 :: x3 :: x4 :: x5 :: some (vL v) :: none :: r) st h) (hp : pc + 2 = pc' := by rfl) : AW K X own cc nL ret dep pc (x0 :: x1 :: x2 :: x3 :: x4 :: x5 :: x6 :: x7 :: r) (vL v :: st) h := AW.lstore hd hn hok rfl k hp
theorem AW.iinc6 {v n : Int} {x0 x1 x2 x3 x4 x5 : Option AV} (hd : decode cc pc = .ok (.iinc 6 n, 3)) (hn : 7 ≤ nL) (hok : okl (x0 :: x1 :: x2 :: x3 :: x4 :: x5 :: some (vI v) :: r) 6 = true) (k : AW K X own cc nL ret dep pc' (x0 :: x1 :: x2 :: x3 :: x4 :: x5 :: some (vI (v + n)) :: r) st h) (hp : pc + 3 = pc' := by rfl) : AW K X own cc nL ret dep pc (x0 :: x1 :: x2 :: x3 :: x4 :: x5 :: some (vI v) :: r) st h := AW.iinc hd rfl hn hok rfl k hp
theorem AW.istore7 {v : Int} {x0 x1 x2 x3 x4 x5 x6 x7 : Option AV} (hd : decode cc pc = .ok (.istore 7, 2)) (hn : 8 ≤ nL) (hok : okl (x0 :: x1 :: x2 :: x3 :: x4 :: x5 :: x6 :: x7 :: r) 7 = true) (k : AW K X own cc nL ret dep pc' (x0 :: x1 :: x2 :: x3 :: x4 :: x5 :: x6 :: some (vI v) :: r) st h) (hp : pc + 2 = pc' := by rfl) : AW K X own cc nL ret dep pc (x0 :: x1 :: x2 :: x3 :: x4 :: x5 :: x6 :: x7 :: r) (vI v :: st) h := AW.istore hd hn hok rfl k hp
theorem AW.astore7 {v : Nat} {x0 x1 x2 x3 x4 x5 x6 x7 : Option AV} (hd : decode cc pc = .ok (.astore 7, 2)) (hn : 8 ≤ nL) (hok : okl (x0 :: x1 :: x2 :: x3 :: x4 :: x5 :: x6 :: x7 :: r) 7 = true) (k : AW K X own cc nL ret dep pc' (x0 :: x1 :: x2 :: x3 :: x4 :: x5 :: x6 :: some (vR v) :: r) st h) (hp : pc + 2 = pc' := by rfl) : AW K X own cc nL ret dep pc (x0 :: x1 :: x2 :: x3 :: x4 :: x5 :: x6 :: x7 :: r) (vR v :: st) h := AW.astore hd hn hok rfl k hp
theorem AW.lstore7 {v : Int} {x0 x1 x2 x3 x4 x5 x6 x7 x8 : Option AV} (hd : decode cc pc = .ok (.lstore 7, 2)) (hn : 9 ≤ nL) (hok : okl (x0 :: x1 :: x2 :: x3 :: x4 :: x5 :: x6 :: x7 :: x8 :: r) 7 = true) (k : AW K X own cc nL ret dep pc' (x0 :: x1 :: x2 :: x3 :: x4 :: x5 :: x6 :: some (vL v) :: none :: r) st h) (hp : pc + 2 = pc' := by rfl) : AW K X own cc nL ret dep pc (x0 :: x1 :: x2 :: x3 :: x4 :: x5 :: x6 :: x7 :: x8 :: r) (vL v :: st) h := AW.lstore hd hn hok rfl k hp
theorem AW.iinc7 {v n : Int} {x0 x1 x2 x3 x4 x5 x6 : Option AV} (hd : decode cc pc = .ok (.iinc 7 n, 3)) (hn : 8 ≤ nL) (hok : okl (x0 :: x1 :: x2 :: x3 :: x4 :: x5 :: x6 :: some (vI v) :: r) 7 = true) (k : AW K X own cc nL ret dep pc' (x0 :: x1 :: x2 :: x3 :: x4 :: x5 :: x6 :: some (vI (v + n)) :: r) st h) (hp : pc + 3 = pc' := by rfl) : AW K X own cc nL ret dep pc (x0 :: x1 :: x2 :: x3 :: x4 :: x5 :: x6 :: some (vI v) :: r) st h := AW.iinc hd rfl hn hok rfl k hp
theorem AW.istore8 {v : Int} {x0 x1 x2 x3 x4 x5 x6 x7 x8 : Option AV} (hd : decode cc pc = .ok (.istore 8, 2)) (hn : 9 ≤ nL) (hok : okl (x0 :: x1 :: x2 :: x3 :: x4 :: x5 :: x6 :: x7 :: x8 :: r) 8 = true) (k : AW K X own cc nL ret dep pc' (x0 :: x1 :: x2 :: x3 :: x4 :: x5 :: x6 :: x7 :: some (vI v) :: r) st h) (hp : pc + 2 = pc' := by rfl) : AW K X own cc nL ret dep pc (x0 :: x1 :: x2 :: x3 :: x4 :: x5 :: x6 :: x7 :: x8 :: r) (vI v :: st) h := AW.istore hd hn hok rfl k hp
theorem AW.astore8 {v : Nat} {x0 x1 x2 x3 x4 x5 x6 x7 x8 : Option AV} (hd : decode cc pc = .ok (.astore 8, 2)) (hn : 9 ≤ nL) (hok : okl (x0 :: x1 :: x2 :: x3 :: x4 :: x5 :: x6 :: x7 :: x8 :: r) 8 = true) (k : AW K X own cc nL ret dep pc' (x0 :: x1 :: x2 :: x3 :: x4 :: x5 :: x6 :: x7 :: some (vR v) :: r) st h) (hp : pc + 2 = pc' := by rfl) : AW K X own cc nL ret dep pc (x0 :: x1 :: x2 :: x3 :: x4 :: x5 :: x6 :: x7 :: x8 :: r) (vR v :: st) h := AW.astore hd hn hok rfl k hp
theorem AW.lstore8 {v : Int} {x0 x1 x2 x3 x4 x5 x6 x7 x8 x9 : Option AV} (hd : decode cc pc = .ok (.lstore 8, 2)) (hn : 10 ≤ nL) (hok : okl (x0 :: x1 :: x2 :: x3 :: x4 :: x5 :: x6 :: x7 :: x8 :: x9 :: r) 8 = true) (k : AW K X own cc nL ret dep pc' (x0 :: x1 :: x2 :: x3 :: x4 :: x5 :: x6 :: x7 :: some (vL v) :: none :: r) st h) (hp : pc + 2 = pc' := by rfl) : AW K X own cc nL ret dep pc (x0 :: x1 :: x2 :: x3 :: x4 :: x5 :: x6 :: x7 :: x8 :: x9 :: r) (vL v :: st) h := AW.lstore hd hn hok rfl k hp
theorem AW.iinc8 {v n : Int} {x0 x1 x2 x3 x4 x5 x6 x7 : Option AV} (hd : decode cc pc = .ok (.iinc 8 n, 3)) (hn : 9 ≤ nL) (hok : okl (x0 :: x1 :: x2 :: x3 :: x4 :: x5 :: x6 :: x7 :: some (vI v) :: r) 8 = true) (k : AW K X own cc nL ret dep pc' (x0 :: x1 :: x2 :: x3 :: x4 :: x5 :: x6 :: x7 :: some (vI (v + n)) :: r) st h) (hp : pc + 3 = pc' := by rfl) : AW K X own cc nL ret dep pc (x0 :: x1 :: x2 :: x3 :: x4 :: x5 :: x6 :: x7 :: some (vI v) :: r) st h := AW.iinc hd rfl hn hok rfl k hp
theorem AW.istore9 {v : Int} {x0 x1 x2 x3 x4 x5 x6 x7 x8 x9 : Option AV} (hd : decode cc pc = .ok (.istore 9, 2)) (hn : 10 ≤ nL) (hok : okl (x0 :: x1 :: x2 :: x3 :: x4 :: x5 :: x6 :: x7 :: x8 :: x9 :: r) 9 = true) (k : AW K X own cc nL ret dep pc' (x0 :: x1 :: x2 :: x3 :: x4 :: x5 :: x6 :: x7 :: x8 :: some (vI v) :: r) st h) (hp : pc + 2 = pc' := by rfl) : AW K X own cc nL ret dep pc (x0 :: x1 :: x2 :: x3 :: x4 :: x5 :: x6 :: x7 :: x8 :: x9 :: r) (vI v :: st) h := AW.istore hd hn hok rfl k hp
theorem AW.astore9 {v : Nat} {x0 x1 x2 x3 x4 x5 x6 x7 x8 x9 : Option AV} (hd : decode cc pc = .ok (.astore 9, 2)) (hn : 10 ≤ nL) (hok : okl (x0 :: x1 :: x2 :: x3 :: x4 :: x5 :: x6 :: x7 :: x8 :: x9 :: r) 9 = true) (k : AW K X own cc nL ret dep pc' (x0 :: x1 :: x2 :: x3 :: x4 :: x5 :: x6 :: x7 :: x8 :: some (vR v) :: r) st h) (hp : pc + 2 = pc' := by rfl) : AW K X own cc nL ret dep pc (x0 :: x1 :: x2 :: x3 :: x4 :: x5 :: x6 :: x7 :: x8 :: x9 :: r) (vR v :: st) h := AW.astore hd hn hok rfl k hp
theorem AW.lstore9 {v : Int} {x0 x1 x2 x3 x4 x5 x6 x7 x8 x9 x10 : Option AV} (hd : decode cc pc = .ok (.lstore 9, 2)) (hn : 11 ≤ nL) (hok : okl (x0 :: x1 :: x2 :: x3 :: x4 :: x5 :: x6 :: x7 :: x8 :: x9 :: x10 :: r) 9 = true) (k : AW K X own cc nL ret dep pc' (x0 :: x1 :: x2 :: x3 :: x4 :: x5 :: x6 :: x7 :: x8 :: some (vL v) :: none :: r) st h) (hp : pc + 2 = pc' := by rfl) : AW K X own cc nL ret dep pc (x0 :: x1 :: x2 :: x3 :: x4 :: x5 :: x6 :: x7 :: x8 :: x9 :: x10 :: r) (vL v :: st) h := AW.lstore hd hn hok rfl k hp
theorem AW.iinc9 {v n : Int} {x0 x1 x2 x3 x4 x5 x6 x7 x8 : Option AV} (hd : decode cc pc = .ok (.iinc 9 n, 3)) (hn : 10 ≤ nL) (hok : okl (x0 :: x1 :: x2 :: x3 :: x4 :: x5 :: x6 :: x7 :: x8 :: some (vI v) :: r) 9 = true) (k : AW K X own cc nL ret dep pc' (x0 :: x1 :: x2 :: x3 :: x4 :: x5 :: x6 :: x7 :: x8 :: some (vI (v + n)) :: r) st h) (hp : pc + 3 = pc' := by rfl) : AW K X own cc nL ret dep pc (x0 :: x1 :: x2 :: x3 :: x4 :: x5 :: x6 :: x7 :: x8 :: some (vI v) :: r) st h := AW.iinc hd rfl hn hok rfl k hp
theorem AW.istore10 {v : Int} {x0 x1 x2 x3 x4 x5 x6 x7 x8 x9 x10 : Option AV} (hd : decode cc pc = .ok (.istore 10, 2)) (hn : 11 ≤ nL) (hok : okl (x0 :: x1 :: x2 :: x3 :: x4 :: x5 :: x6 :: x7 :: x8 :: x9 :: x10 :: r) 10 = true) (k : AW K X own cc nL ret dep pc' (x0 :: x1 :: x2 :: x3 :: x4 :: x5 :: x6 :: x7 :: x8 :: x9 :: some (vI v) :: r) st h) (hp : pc + 2 = pc' := by rfl) : AW K X own cc nL ret dep pc (x0 :: x1 :: x2 :: x3 :: x4 :: x5 :: x6 :: x7 :: x8 :: x9 :: x10 :: r) (vI v :: st) h := AW.istore hd hn hok rfl k hp
theorem AW.astore10 {v : Nat} {x0 x1 x2 x3 x4 x5 x6 x7 x8 x9 x10 : Option AV} (hd : decode cc pc = .ok (.astore 10, 2)) (hn : 11 ≤ nL) (hok : okl (x0 :: x1 :: x2 :: x3 :: x4 :: x5 :: x6 :: x7 :: x8 :: x9 :: x10 :: r) 10 = true) (k : AW K X own cc nL ret dep pc' (x0 :: x1 :: x2 :: x3 :: x4 :: x5 :: x6 :: x7 :: x8 :: x9 :: some (vR v) :: r) st h) (hp : pc + 2 = pc' := by rfl) : AW K X own cc nL ret dep pc (x0 :: x1 :: x2 :: x3 :: x4 :: x5 :: x6 :: x7 :: x8 :: x9 :: x10 :: r) (vR v :: st) h := AW.astore hd hn hok rfl k hp
theorem AW.lstore10 {v : Int} {x0 x1 x2 x3 x4 x5 x6 x7 x8 x9 x10 x11 : Option AV} (hd : decode cc pc = .ok (.lstore 10, 2)) (hn : 12 ≤ nL) (hok : okl (x0 :: x1 :: x2 :: x3 :: x4 :: x5 :: x6 :: x7 :: x8 :: x9 :: x10 :: x11 :: r) 10 = true) (k : AW K X own cc nL ret dep pc' (x0 :: x1 :: x2 :: x3 :: x4 :: x5 :: x6 :: x7 :: x8 :: x9 :: some (vL v) :: none :: r) st h) (hp : pc + 2 = pc' := by rfl) : AW K X own cc nL ret dep pc (x0 :: x1 :: x2 :: x3 :: x4 :: x5 :: x6 :: x7 :: x8 :: x9 :: x10 :: x11 :: r) (vL v :: st) h := AW.lstore hd hn hok rfl k hp
theorem AW.iinc10 {v n : Int} {x0 x1 x2 x3 x4 x5 x6 x7 x8 x9 : Option AV} (hd : decode cc pc = .ok (.iinc 10 n, 3)) (hn : 11 ≤ nL) (hok : okl (x0 :: x1 :: x2 :: x3 :: x4 :: x5 :: x6 :: x7 :: x8 :: x9 :: some (vI v) :: r) 10 = true) (k : AW K X own cc nL ret dep pc' (x0 :: x1 :: x2 :: x3 :: x4 :: x5 :: x6 :: x7 :: x8 :: x9 :: some (vI (v + n)) :: r) st h) (hp : pc + 3 = pc' := by rfl) : AW K X own cc nL ret dep pc (x0 :: x1 :: x2 :: x3 :: x4 :: x5 :: x6 :: x7 :: x8 :: x9 :: some (vI v) :: r) st h := AW.iinc hd rfl hn hok rfl k hp
theorem AW.istore11 {v : Int} {x0 x1 x2 x3 x4 x5 x6 x7 x8 x9 x10 x11 : Option AV} (hd : decode cc pc = .ok (.istore 11, 2)) (hn : 12 ≤ nL) (hok : okl (x0 :: x1 :: x2 :: x3 :: x4 :: x5 :: x6 :: x7 :: x8 :: x9 :: x10 :: x11 :: r) 11 = true) (k : AW K X own cc nL ret dep pc' (x0 :: x1 :: x2 :: x3 :: x4 :: x5 :: x6 :: x7 :: x8 :: x9 :: x10 :: some (vI v) :: r) st h) (hp : pc + 2 = pc' := by rfl) : AW K X own cc nL ret dep pc (x0 :: x1 :: x2 :: x3 :: x4 :: x5 :: x6 :: x7 :: x8 :: x9 :: x10 :: x11 :: r) (vI v :: st) h := AW.istore hd hn hok rfl k hp
theorem AW.astore11 {v : Nat} {x0 x1 x2 x3 x4 x5 x6 x7 x8 x9 x10 x11 : Option AV} (hd : decode cc pc = .ok (.astore 11, 2)) (hn : 12 ≤ nL) (hok : okl (x0 :: x1 :: x2 :: x3 :: x4 :: x5 :: x6 :: x7 :: x8 :: x9 :: x10 :: x11 :: r) 11 = true) (k : AW K X own cc nL ret dep pc' (x0 :: x1 :: x2 :: x3 :: x4 :: x5 :: x6 :: x7 :: x8 :: x9 :: x10 :: some (vR v) :: r) st h) (hp : pc + 2 = pc' := by rfl) : AW K X own cc nL ret dep pc (x0 :: x1 :: x2 :: x3 :: x4 :: x5 :: x6 :: x7 :: x8 :: x9 :: x10 :: x11 :: r) (vR v :: st) h := AW.astore hd hn hok rfl k hp
theorem AW.lstore11 {v : Int} {x0 x1 x2 x3 x4 x5 x6 x7 x8 x9 x10 x11 x12 : Option AV} (hd : decode cc pc = .ok (.lstore 11, 2)) (hn : 13 ≤ nL) (hok : okl (x0 :: x1 :: x2 :: x3 :: x4 :: x5 :: x6 :: x7 :: x8 :: x9 :: x10 :: x11 :: x12 :: r) 11 = true) (k : AW K X own cc nL ret dep pc' (x0 :: x1 :: x2 :: x3 :: x4 :: x5 :: x6 :: x7 :: x8 :: x9 :: x10 :: some (vL v) :: none :: r) st h) (hp : pc + 2 = pc' := by rfl) : AW K X own cc nL ret dep pc (x0 :: x1 :: x2 :: x3 :: x4 :: x5 :: x6 :: x7 :: x8 :: x9 :: x10 :: x11 :: x12 :: r) (vL v :: st) h := AW.lstore hd hn hok rfl k hp
theorem AW.iinc11 {v n : Int} {x0 x1 x2 x3 x4 x5 x6 x7 x8 x9 x10 : Option AV} (hd : decode cc pc = .ok (.iinc 11 n, 3)) (hn : 12 ≤ nL) (hok : okl (x0 :: x1 :: x2 :: x3 :: x4 :: x5 :: x6 :: x7 :: x8 :: x9 :: x10 :: some (vI v) :: r) 11 = true) (k : AW K X own cc nL ret dep pc' (x0 :: x1 :: x2 :: x3 :: x4 :: x5 :: x6 :: x7 :: x8 :: x9 :: x10 :: some (vI (v + n)) :: r) st h) (hp : pc + 3 = pc' := by rfl) : AW K X own cc nL ret dep pc (x0 :: x1 :: x2 :: x3 :: x4 :: x5 :: x6 :: x7 :: x8 :: x9 :: x10 :: some (vI v) :: r) st h := AW.iinc hd rfl hn hok rfl k hp
theorem AW.istore12 {v : Int} {x0 x1 x2 x3 x4 x5 x6 x7 x8 x9 x10 x11 x12 : Option AV} (hd : decode cc pc = .ok (.istore 12, 2)) (hn : 13 ≤ nL) (hok : okl (x0 :: x1 :: x2 :: x3 :: x4 :: x5 :: x6 :: x7 :: x8 :: x9 :: x10 :: x11 :: x12 :: r) 12 = true) (k : AW K X own cc nL ret dep pc' (x0 :: x1 :: x2 :: x3 :: x4 :: x5 :: x6 :: x7 :: x8 :: x9 :: x10 :: x11 :: some (vI v) :: r) st h) (hp : pc + 2 = pc' := by rfl) : AW K X own cc nL ret dep pc (x0 :: x1 :: x2 :: x3 :: x4 :: x5 :: x6 :: x7 :: x8 :: x9 :: x10 :: x11 :: x12 :: r) (vI v :: st) h := AW.istore hd hn hok rfl k hp
theorem AW.astore12 {v : Nat} {x0 x1 x2 x3 x4 x5 x6 x7 x8 x9 x10 x11 x12 : Option AV} (hd : decode cc pc = .ok (.astore 12, 2)) (hn : 13 ≤ nL) (hok : okl (x0 :: x1 :: x2 :: x3 :: x4 :: x5 :: x6 :: x7 :: x8 :: x9 :: x10 :: x11 :: x12 :: r) 12 = true) (k : AW K X own cc nL ret dep pc' (x0 :: x1 :: x2 :: x3 :: x4 :: x5 :: x6 :: x7 :: x8 :: x9 :: x10 :: x11 :: some (vR v) :: r) st h) (hp : pc + 2 = pc' := by rfl) : AW K X own cc nL ret dep pc (x0 :: x1 :: x2 :: x3 :: x4 :: x5 :: x6 :: x7 :: x8 :: x9 :: x10 :: x11 :: x12 :: r) (vR v :: st) h := AW.astore hd hn hok rfl k hp
theorem AW.lstore12 {v : Int} {x0 x1 x2 x3 x4 x5 x6 x7 x8 x9 x10 x11 x12 x13 : Option AV} (hd : decode cc pc = .ok (.lstore 12, 2)) (hn : 14 ≤ nL) (hok : okl (x0 :: x1 :: x2 :: x3 :: x4 :: x5 :: x6 :: x7 :: x8 :: x9 :: x10 :: x11 :: x12 :: x13 :: r) 12 = true) (k : AW K X own cc nL ret dep pc' (x0 :: x1 :: x2 :: x3 :: x4 :: x5 :: x6 :: x7 :: x8 :: x9 :: x10 :: x11 :: some (vL v) :: none :: r) st h) (hp : pc + 2 = pc' := by rfl) : AW K X own cc nL ret dep pc (x0 :: x1 :: x2 :: x3 :: x4 :: x5 :: x6 :: x7 :: x8 :: x9 :: x10 :: x11 :: x12 :: x13 :: r) (vL v :: st) h := AW.lstore hd hn hok rfl k hp
theorem AW.iinc12 {v n : Int} {x0 x1 x2 x3 x4 x5 x6 x7 x8 x9 x10 x11 : Option AV} (hd : decode cc pc = .ok (.iinc 12 n, 3)) (hn : 13 ≤ nL) (hok : okl (x0 :: x1 :: x2 :: x3 :: x4 :: x5 :: x6 :: x7 :: x8 :: x9 :: x10 :: x11 :: some (vI v) :: r) 12 = true) (k : AW K X own cc nL ret dep pc' (x0 :: x1 :: x2 :: x3 :: x4 :: x5 :: x6 :: x7 :: x8 :: x9 :: x10 :: x11 :: some (vI (v + n)) :: r) st h) (hp : pc + 3 = pc' := by rfl) : AW K X own cc nL ret dep pc (x0 :: x1 :: x2 :: x3 :: x4 :: x5 :: x6 :: x7 :: x8 :: x9 :: x10 :: x11 :: some (vI v) :: r) st h := AW.iinc hd rfl hn hok rfl k hp
theorem AW.istore13 {v : Int} {x0 x1 x2 x3 x4 x5 x6 x7 x8 x9 x10 x11 x12 x13 : Option AV} (hd : decode cc pc = .ok (.istore 13, 2)) (hn : 14 ≤ nL) (hok : okl (x0 :: x1 :: x2 :: x3 :: x4 :: x5 :: x6 :: x7 :: x8 :: x9 :: x10 :: x11 :: x12 :: x13 :: r) 13 = true) (k : AW K X own cc nL ret dep pc' (x0 :: x1 :: x2 :: x3 :: x4 :: x5 :: x6 :: x7 :: x8 :: x9 :: x10 :: x11 :: x12 :: some (vI v) :: r) st h) (hp : pc + 2 = pc' := by rfl) : AW K X own cc nL ret dep pc (x0 :: x1 :: x2 :: x3 :: x4 :: x5 :: x6 :: x7 :: x8 :: x9 :: x10 :: x11 :: x12 :: x13 :: r) (vI v :: st) h := AW.istore hd hn hok rfl k hp
theorem AW.lstore13 {v : Int} {x0 x1 x2 x3 x4 x5 x6 x7 x8 x9 x10 x11 x12 x13 x14 : Option AV} (hd : decode cc pc = .ok (.lstore 13, 2)) (hn : 15 ≤ nL) (hok : okl (x0 :: x1 :: x2 :: x3 :: x4 :: x5 :: x6 :: x7 :: x8 :: x9 :: x10 :: x11 :: x12 :: x13 :: x14 :: r) 13 = true) (k : AW K X own cc nL ret dep pc' (x0 :: x1 :: x2 :: x3 :: x4 :: x5 :: x6 :: x7 :: x8 :: x9 :: x10 :: x11 :: x12 :: some (vL v) :: none :: r) st h) (hp : pc + 2 = pc' := by rfl) : AW K X own cc nL ret dep pc (x0 :: x1 :: x2 :: x3 :: x4 :: x5 :: x6 :: x7 :: x8 :: x9 :: x10 :: x11 :: x12 :: x13 :: x14 :: r) (vL v :: st) h := AW.lstore hd hn hok rfl k hp
theorem AW.iinc13 {v n : Int} {x0 x1 x2 x3 x4 x5 x6 x7 x8 x9 x10 x11 x12 : Option AV} (hd : decode cc pc = .ok (.iinc 13 n, 3)) (hn : 14 ≤ nL) (hok : okl (x0 :: x1 :: x2 :: x3 :: x4 :: x5 :: x6 :: x7 :: x8 :: x9 :: x10 :: x11 :: x12 :: some (vI v) :: r) 13 = true) (k : AW K X own cc nL ret dep pc' (x0 :: x1 :: x2 :: x3 :: x4 :: x5 :: x6 :: x7 :: x8 :: x9 :: x10 :: x11 :: x12 :: some (vI (v + n)) :: r) st h) (hp : pc + 3 = pc' := by rfl) : AW K X own cc nL ret dep pc (x0 :: x1 :: x2 :: x3 :: x4 :: x5 :: x6 :: x7 :: x8 :: x9 :: x10 :: x11 :: x12 :: some (vI v) :: r) st h := AW.iinc hd rfl hn hok rfl k hp
theorem AW.istore14 {v : Int} {x0 x1 x2 x3 x4 x5 x6 x7 x8 x9 x10 x11 x12 x13 x14 : Option AV} (hd : decode cc pc = .ok (.istore 14, 2)) (hn : 15 ≤ nL) (hok : okl (x0 :: x1 :: x2 :: x3 :: x4 :: x5 :: x6 :: x7 :: x8 :: x9 :: x10 :: x11 :: x12 :: x13 :: x14 :: r) 14 = true) (k : AW K X own cc nL ret dep pc' (x0 :: x1 :: x2 :: x3 :: x4 :: x5 :: x6 :: x7 :: x8 :: x9 :: x10 :: x11 :: x12 :: x13 :: some (vI v) :: r) st h) (hp : pc + 2 = pc' := by rfl) : AW K X own cc nL ret dep pc (x0 :: x1 :: x2 :: x3 :: x4 :: x5 :: x6 :: x7 :: x8 :: x9 :: x10 :: x11 :: x12 :: x13 :: x14 :: r) (vI v :: st) h := AW.istore hd hn hok rfl k hp
theorem AW.lstore14 {v : Int} {x0 x1 x2 x3 x4 x5 x6 x7 x8 x9 x10 x11 x12 x13 x14 x15 : Option AV} (hd : decode cc pc = .ok (.lstore 14, 2)) (hn : 16 ≤ nL) (hok : okl (x0 :: x1 :: x2 :: x3 :: x4 :: x5 :: x6 :: x7 :: x8 :: x9 :: x10 :: x11 :: x12 :: x13 :: x14 :: x15 :: r) 14 = true) (k : AW K X own cc nL ret dep pc' (x0 :: x1 :: x2 :: x3 :: x4 :: x5 :: x6 :: x7 :: x8 :: x9 :: x10 :: x11 :: x12 :: x13 :: some (vL v) :: none :: r) st h) (hp : pc + 2 = pc' := by rfl) : AW K X own cc nL ret dep pc (x0 :: x1 :: x2 :: x3 :: x4 :: x5 :: x6 :: x7 :: x8 :: x9 :: x10 :: x11 :: x12 :: x13 :: x14 :: x15 :: r) (vL v :: st) h := AW.lstore hd hn hok rfl k hp
theorem AW.iinc14 {v n : Int} {x0 x1 x2 x3 x4 x5 x6 x7 x8 x9 x10 x11 x12 x13 : Option AV} (hd : decode cc pc = .ok (.iinc 14 n, 3)) (hn : 15 ≤ nL) (hok : okl (x0 :: x1 :: x2 :: x3 :: x4 :: x5 :: x6 :: x7 :: x8 :: x9 :: x10 :: x11 :: x12 :: x13 :: some (vI v) :: r) 14 = true) (k : AW K X own cc nL ret dep pc' (x0 :: x1 :: x2 :: x3 :: x4 :: x5 :: x6 :: x7 :: x8 :: x9 :: x10 :: x11 :: x12 :: x13 :: some (vI (v + n)) :: r) st h) (hp : pc + 3 = pc' := by rfl) : AW K X own cc nL ret dep pc (x0 :: x1 :: x2 :: x3 :: x4 :: x5 :: x6 :: x7 :: x8 :: x9 :: x10 :: x11 :: x12 :: x13 :: some (vI v) :: r) st h := AW.iinc hd rfl hn hok rfl k hp
theorem AW.istore15 {v : Int} {x0 x1 x2 x3 x4 x5 x6 x7 x8 x9 x10 x11 x12 x13 x14 x15 : Option AV} (hd : decode cc pc = .ok (.istore 15, 2)) (hn : 16 ≤ nL) (hok : okl (x0 :: x1 :: x2 :: x3 :: x4 :: x5 :: x6 :: x7 :: x8 :: x9 :: x10 :: x11 :: x12 :: x13 :: x14 :: x15 :: r) 15 = true) (k : AW K X own cc nL ret dep pc' (x0 :: x1 :: x2 :: x3 :: x4 :: x5 :: x6 :: x7 :: x8 :: x9 :: x10 :: x11 :: x12 :: x13 :: x14 :: some (vI v) :: r) st h) (hp : pc + 2 = pc' := by rfl) : AW K X own cc nL ret dep pc (x0 :: x1 :: x2 :: x3 :: x4 :: x5 :: x6 :: x7 :: x8 :: x9 :: x10 :: x11 :: x12 :: x13 :: x14 :: x15 :: r) (vI v :: st) h := AW.istore hd hn hok rfl k hp
theorem AW.lstore15 {v : Int} {x0 x1 x2 x3 x4 x5 x6 x7 x8 x9 x10 x11 x12 x13 x14 x15 x16 : Option AV} (hd : decode cc pc = .ok (.lstore 15, 2)) (hn : 17 ≤ nL) (hok : okl (x0 :: x1 :: x2 :: x3 :: x4 :: x5 :: x6 :: x7 :: x8 :: x9 :: x10 :: x11 :: x12 :: x13 :: x14 :: x15 :: x16 :: r) 15 = true) (k : AW K X own cc nL ret dep pc' (x0 :: x1 :: x2 :: x3 :: x4 :: x5 :: x6 :: x7 :: x8 :: x9 :: x10 :: x11 :: x12 :: x13 :: x14 :: some (vL v) :: none :: r) st h) (hp : pc + 2 = pc' := by rfl) : AW K X own cc nL ret dep pc (x0 :: x1 :: x2 :: x3 :: x4 :: x5 :: x6 :: x7 :: x8 :: x9 :: x10 :: x11 :: x12 :: x13 :: x14 :: x15 :: x16 :: r) (vL v :: st) h := AW.lstore hd hn hok rfl k hp
theorem AW.iinc15 {v n : Int} {x0 x1 x2 x3 x4 x5 x6 x7 x8 x9 x10 x11 x12 x13 x14 : Option AV} (hd : decode cc pc = .ok (.iinc 15 n, 3)) (hn : 16 ≤ nL) (hok : okl (x0 :: x1 :: x2 :: x3 :: x4 :: x5 :: x6 :: x7 :: x8 :: x9 :: x10 :: x11 :: x12 :: x13 :: x14 :: some (vI v) :: r) 15 = true) (k : AW K X own cc nL ret dep pc' (x0 :: x1 :: x2 :: x3 :: x4 :: x5 :: x6 :: x7 :: x8 :: x9 :: x10 :: x11 :: x12 :: x13 :: x14 :: some (vI (v + n)) :: r) st h) (hp : pc + 3 = pc' := by rfl) : AW K X own cc nL ret dep pc (x0 :: x1 :: x2 :: x3 :: x4 :: x5 :: x6 :: x7 :: x8 :: x9 :: x10 :: x11 :: x12 :: x13 :: x14 :: some (vI v) :: r) st h := AW.iinc hd rfl hn hok rfl k hp
theorem AW.istore16 {v : Int} {x0 x1 x2 x3 x4 x5 x6 x7 x8 x9 x10 x11 x12 x13 x14 x15 x16 : Option AV} (hd : decode cc pc = .ok (.istore 16, 2)) (hn : 17 ≤ nL) (hok : okl (x0 :: x1 :: x2 :: x3 :: x4 :: x5 :: x6 :: x7 :: x8 :: x9 :: x10 :: x11 :: x12 :: x13 :: x14 :: x15 :: x16 :: r) 16 = true) (k : AW K X own cc nL ret dep pc' (x0 :: x1 :: x2 :: x3 :: x4 :: x5 :: x6 :: x7 :: x8 :: x9 :: x10 :: x11 :: x12 :: x13 :: x14 :: x15 :: some (vI v) :: r) st h) (hp : pc + 2 = pc' := by rfl) : AW K X own cc nL ret dep pc (x0 :: x1 :: x2 :: x3 :: x4 :: x5 :: x6 :: x7 :: x8 :: x9 :: x10 :: x11 :: x12 :: x13 :: x14 :: x15 :: x16 :: r) (vI v :: st) h := AW.istore hd hn hok rfl k hp
theorem AW.lstore16 {v : Int} {x0 x1 x2 x3 x4 x5 x6 x7 x8 x9 x10 x11 x12 x13 x14 x15 x16 x17 : Option AV} (hd : decode cc pc = .ok (.lstore 16, 2)) (hn : 18 ≤ nL) (hok : okl (x0 :: x1 :: x2 :: x3 :: x4 :: x5 :: x6 :: x7 :: x8 :: x9 :: x10 :: x11 :: x12 :: x13 :: x14 :: x15 :: x16 :: x17 :: r) 16 = true) (k : AW K X own cc nL ret dep pc' (x0 :: x1 :: x2 :: x3 :: x4 :: x5 :: x6 :: x7 :: x8 :: x9 :: x10 :: x11 :: x12 :: x13 :: x14 :: x15 :: some (vL v) :: none :: r) st h) (hp : pc + 2 = pc' := by rfl) : AW K X own cc nL ret dep pc (x0 :: x1 :: x2 :: x3 :: x4 :: x5 :: x6 :: x7 :: x8 :: x9 :: x10 :: x11 :: x12 :: x13 :: x14 :: x15 :: x16 :: x17 :: r) (vL v :: st) h := AW.lstore hd hn hok rfl k hp
theorem AW.iinc16 {v n : Int} {x0 x1 x2 x3 x4 x5 x6 x7 x8 x9 x10 x11 x12 x13 x14 x15 : Option AV} (hd : decode cc pc = .ok (.iinc 16 n, 3)) (hn : 17 ≤ nL) (hok : okl (x0 :: x1 :: x2 :: x3 :: x4 :: x5 :: x6 :: x7 :: x8 :: x9 :: x10 :: x11 :: x12 :: x13 :: x14 :: x15 :: some (vI v) :: r) 16 = true) (k : AW K X own cc nL ret dep pc' (x0 :: x1 :: x2 :: x3 :: x4 :: x5 :: x6 :: x7 :: x8 :: x9 :: x10 :: x11 :: x12 :: x13 :: x14 :: x15 :: some (vI (v + n)) :: r) st h) (hp : pc + 3 = pc' := by rfl) : AW K X own cc nL ret dep pc (x0 :: x1 :: x2 :: x3 :: x4 :: x5 :: x6 :: x7 :: x8 :: x9 :: x10 :: x11 :: x12 :: x13 :: x14 :: x15 :: some (vI v) :: r) st h := AW.iinc hd rfl hn hok rfl k hp
theorem AW.istore17 {v : Int} {x0 x1 x2 x3 x4 x5 x6 x7 x8 x9 x10 x11 x12 x13 x14 x15 x16 x17 : Option AV} (hd : decode cc pc = .ok (.istore 17, 2)) (hn : 18 ≤ nL) (hok : okl (x0 :: x1 :: x2 :: x3 :: x4 :: x5 :: x6 :: x7 :: x8 :: x9 :: x10 :: x11 :: x12 :: x13 :: x14 :: x15 :: x16 :: x17 :: r) 17 = true) (k : AW K X own cc nL ret dep pc' (x0 :: x1 :: x2 :: x3 :: x4 :: x5 :: x6 :: x7 :: x8 :: x9 :: x10 :: x11 :: x12 :: x13 :: x14 :: x15 :: x16 :: some (vI v) :: r) st h) (hp : pc + 2 = pc' := by rfl) : AW K X own cc nL ret dep pc (x0 :: x1 :: x2 :: x3 :: x4 :: x5 :: x6 :: x7 :: x8 :: x9 :: x10 :: x11 :: x12 :: x13 :: x14 :: x15 :: x16 :: x17 :: r) (vI v :: st) h := AW.istore hd hn hok rfl k hp
theorem AW.lstore17 {v : Int} {x0 x1 x2 x3 x4 x5 x6 x7 x8 x9 x10 x11 x12 x13 x14 x15 x16 x17 x18 : Option AV} (hd : decode cc pc = .ok (.lstore 17, 2)) (hn : 19 ≤ nL) (hok : okl (x0 :: x1 :: x2 :: x3 :: x4 :: x5 :: x6 :: x7 :: x8 :: x9 :: x10 :: x11 :: x12 :: x13 :: x14 :: x15 :: x16 :: x17 :: x18 :: r) 17 = true) (k : AW K X own cc nL ret dep pc' (x0 :: x1 :: x2 :: x3 :: x4 :: x5 :: x6 :: x7 :: x8 :: x9 :: x10 :: x11 :: x12 :: x13 :: x14 :: x15 :: x16 :: some (vL v) :: none :: r) st h) (hp : pc + 2 = pc' := by rfl) : AW K X own cc nL ret dep pc (x0 :: x1 :: x2 :: x3 :: x4 :: x5 :: x6 :: x7 :: x8 :: x9 :: x10 :: x11 :: x12 :: x13 :: x14 :: x15 :: x16 :: x17 :: x18 :: r) (vL v :: st) h := AW.lstore hd hn hok rfl k hp
theorem AW.iinc17 {v n : Int} {x0 x1 x2 x3 x4 x5 x6 x7 x8 x9 x10 x11 x12 x13 x14 x15 x16 : Option AV} (hd : decode cc pc = .ok (.iinc 17 n, 3)) (hn : 18 ≤ nL) (hok : okl (x0 :: x1 :: x2 :: x3 :: x4 :: x5 :: x6 :: x7 :: x8 :: x9 :: x10 :: x11 :: x12 :: x13 :: x14 :: x15 :: x16 :: some (vI v) :: r) 17 = true) (k : AW K X own cc nL ret dep pc' (x0 :: x1 :: x2 :: x3 :: x4 :: x5 :: x6 :: x7 :: x8 :: x9 :: x10 :: x11 :: x12 :: x13 :: x14 :: x15 :: x16 :: some (vI (v + n)) :: r) st h) (hp : pc + 3 = pc' := by rfl) : AW K X own cc nL ret dep pc (x0 :: x1 :: x2 :: x3 :: x4 :: x5 :: x6 :: x7 :: x8 :: x9 :: x10 :: x11 :: x12 :: x13 :: x14 :: x15 :: x16 :: some (vI v) :: r) st h := AW.iinc hd rfl hn hok rfl k hp
theorem AW.istore18 {v : Int} {x0 x1 x2 x3 x4 x5 x6 x7 x8 x9 x10 x11 x12 x13 x14 x15 x16 x17 x18 : Option AV} (hd : decode cc pc = .ok (.istore 18, 2)) (hn : 19 ≤ nL) (hok : okl (x0 :: x1 :: x2 :: x3 :: x4 :: x5 :: x6 :: x7 :: x8 :: x9 :: x10 :: x11 :: x12 :: x13 :: x14 :: x15 :: x16 :: x17 :: x18 :: r) 18 = true) (k : AW K X own cc nL ret dep pc' (x0 :: x1 :: x2 :: x3 :: x4 :: x5 :: x6 :: x7 :: x8 :: x9 :: x10 :: x11 :: x12 :: x13 :: x14 :: x15 :: x16 :: x17 :: some (vI v) :: r) st h) (hp : pc + 2 = pc' := by rfl) : AW K X own cc nL ret dep pc (x0 :: x1 :: x2 :: x3 :: x4 :: x5 :: x6 :: x7 :: x8 :: x9 :: x10 :: x11 :: x12 :: x13 :: x14 :: x15 :: x16 :: x17 :: x18 :: r) (vI v :: st) h := AW.istore hd hn hok rfl k hp
theorem AW.lstore18 {v : Int} {x0 x1 x2 x3 x4 x5 x6 x7 x8 x9 x10 x11 x12 x13 x14 x15 x16 x17 x18 x19 : Option AV} (hd : decode cc pc = .ok (.lstore 18, 2)) (hn : 20 ≤ nL) (hok : okl (x0 :: x1 :: x2 :: x3 :: x4 :: x5 :: x6 :: x7 :: x8 :: x9 :: x10 :: x11 :: x12 :: x13 :: x14 :: x15 :: x16 :: x17 :: x18 :: x19 :: r) 18 = true) (k : AW K X own cc nL ret dep pc' (x0 :: x1 :: x2 :: x3 :: x4 :: x5 :: x6 :: x7 :: x8 :: x9 :: x10 :: x11 :: x12 :: x13 :: x14 :: x15 :: x16 :: x17 :: some (vL v) :: none :: r) st h) (hp : pc + 2 = pc' := by rfl) : AW K X own cc nL ret dep pc (x0 :: x1 :: x2 :: x3 :: x4 :: x5 :: x6 :: x7 :: x8 :: x9 :: x10 :: x11 :: x12 :: x13 :: x14 :: x15 :: x16 :: x17 :: x18 :: x19 :: r) (vL v :: st) h := AW.lstore hd hn hok rfl k hp
theorem AW.iinc18 {v n : Int} {x0 x1 x2 x3 x4 x5 x6 x7 x8 x9 x10 x11 x12 x13 x14 x15 x16 x17 : Option AV} (hd : decode cc pc = .ok (.iinc 18 n, 3)) (hn : 19 ≤ nL) (hok : okl (x0 :: x1 :: x2 :: x3 :: x4 :: x5 :: x6 :: x7 :: x8 :: x9 :: x10 :: x11 :: x12 :: x13 :: x14 :: x15 :: x16 :: x17 :: some (vI v) :: r) 18 = true) (k : AW K X own cc nL ret dep pc' (x0 :: x1 :: x2 :: x3 :: x4 :: x5 :: x6 :: x7 :: x8 :: x9 :: x10 :: x11 :: x12 :: x13 :: x14 :: x15 :: x16 :: x17 :: some (vI (v + n)) :: r) st h) (hp : pc + 3 = pc' := by rfl) : AW K X own cc nL ret dep pc (x0 :: x1 :: x2 :: x3 :: x4 :: x5 :: x6 :: x7 :: x8 :: x9 :: x10 :: x11 :: x12 :: x13 :: x14 :: x15 :: x16 :: x17 :: some (vI v) :: r) st h := AW.iinc hd rfl hn hok rfl k hp
theorem AW.istore19 {v : Int} {x0 x1 x2 x3 x4 x5 x6 x7 x8 x9 x10 x11 x12 x13 x14 x15 x16 x17 x18 x19 : Option AV} (hd : decode cc pc = .ok (.istore 19, 2)) (hn : 20 ≤ nL) (hok : okl (x0 :: x1 :: x2 :: x3 :: x4 :: x5 :: x6 :: x7 :: x8 :: x9 :: x10 :: x11 :: x12 :: x13 :: x14 :: x15 :: x16 :: x17 :: x18 :: x19 :: r) 19 = true) (k : AW K X own cc nL ret dep pc' (x0 :: x1 :: x2 :: x3 :: x4 :: x5 :: x6 :: x7 :: x8 :: x9 :: x10 :: x11 :: x12 :: x13 :: x14 :: x15 :: x16 :: x17 :: x18 :: some (vI v) :: r) st h) (hp : pc + 2 = pc' := by rfl) : AW K X own cc nL ret dep pc (x0 :: x1 :: x2 :: x3 :: x4 :: x5 :: x6 :: x7 :: x8 :: x9 :: x10 :: x11 :: x12 :: x13 :: x14 :: x15 :: x16 :: x17 :: x18 :: x19 :: r) (vI v :: st) h := AW.istore hd hn hok rfl k hp
theorem AW.lstore19 {v : Int} {x0 x1 x2 x3 x4 x5 x6 x7 x8 x9 x10 x11 x12 x13 x14 x15 x16 x17 x18 x19 x20 : Option AV} (hd : decode cc pc = .ok (.lstore 19, 2)) (hn : 21 ≤ nL) (hok : okl (x0 :: x1 :: x2 :: x3 :: x4 :: x5 :: x6 :: x7 :: x8 :: x9 :: x10 :: x11 :: x12 :: x13 :: x14 :: x15 :: x16 :: x17 :: x18 :: x19 :: x20 :: r) 19 = true) (k : AW K X own cc nL ret dep pc' (x0 :: x1 :: x2 :: x3 :: x4 :: x5 :: x6 :: x7 :: x8 :: x9 :: x10 :: x11 :: x12 :: x13 :: x14 :: x15 :: x16 :: x17 :: x18 :: some (vL v) :: none :: r) st h) (hp : pc + 2 = pc' := by rfl) : AW K X own cc nL ret dep pc (x0 :: x1 :: x2 :: x3 :: x4 :: x5 :: x6 :: x7 :: x8 :: x9 :: x10 :: x11 :: x12 :: x13 :: x14 :: x15 :: x16 :: x17 :: x18 :: x19 :: x20 :: r) (vL v :: st) h := AW.lstore hd hn hok rfl k hp
theorem AW.iinc19 {v n : Int} {x0 x1 x2 x3 x4 x5 x6 x7 x8 x9 x10 x11 x12 x13 x14 x15 x16 x17 x18 : Option AV} (hd : decode cc pc = .ok (.iinc 19 n, 3)) (hn : 20 ≤ nL) (hok : okl (x0 :: x1 :: x2 :: x3 :: x4 :: x5 :: x6 :: x7 :: x8 :: x9 :: x10 :: x11 :: x12 :: x13 :: x14 :: x15 :: x16 :: x17 :: x18 :: some (vI v) :: r) 19 = true) (k : AW K X own cc nL ret dep pc' (x0 :: x1 :: x2 :: x3 :: x4 :: x5 :: x6 :: x7 :: x8 :: x9 :: x10 :: x11 :: x12 :: x13 :: x14 :: x15 :: x16 :: x17 :: x18 :: some (vI (v + n)) :: r) st h) (hp : pc + 3 = pc' := by rfl) : AW K X own cc nL ret dep pc (x0 :: x1 :: x2 :: x3 :: x4 :: x5 :: x6 :: x7 :: x8 :: x9 :: x10 :: x11 :: x12 :: x13 :: x14 :: x15 :: x16 :: x17 :: x18 :: some (vI v) :: r) st h := AW.iinc hd rfl hn hok rfl k hp
theorem AW.istore20 {v : Int} {x0 x1 x2 x3 x4 x5 x6 x7 x8 x9 x10 x11 x12 x13 x14 x15 x16 x17 x18 x19 x20 : Option AV} (hd : decode cc pc = .ok (.istore 20, 2)) (hn : 21 ≤ nL) (hok : okl (x0 :: x1 :: x2 :: x3 :: x4 :: x5 :: x6 :: x7 :: x8 :: x9 :: x10 :: x11 :: x12 :: x13 :: x14 :: x15 :: x16 :: x17 :: x18 :: x19 :: x20 :: r) 20 = true) (k : AW K X own cc nL ret dep pc' (x0 :: x1 :: x2 :: x3 :: x4 :: x5 :: x6 :: x7 :: x8 :: x9 :: x10 :: x11 :: x12 :: x13 :: x14 :: x15 :: x16 :: x17 :: x18 :: x19 :: some (vI v) :: r) st h) (hp : pc + 2 = pc' := by rfl) : AW K X own cc nL ret dep pc (x0 :: x1 :: x2 :: x3 :: x4 :: x5 :: x6 :: x7 :: x8 :: x9 :: x10 :: x11 :: x12 :: x13 :: x14 :: x15 :: x16 :: x17 :: x18 :: x19 :: x20 :: r) (vI v :: st) h := AW.istore hd hn hok rfl k hp
theorem AW.lstore20 {v : Int} {x0 x1 x2 x3 x4 x5 x6 x7 x8 x9 x10 x11 x12 x13 x14 x15 x16 x17 x18 x19 x20 x21 : Option AV} (hd : decode cc pc = .ok (.lstore 20, 2)) (hn : 22 ≤ nL) (hok : okl (x0 :: x1 :: x2 :: x3 :: x4 :: x5 :: x6 :: x7 :: x8 :: x9 :: x10 :: x11 :: x12 :: x13 :: x14 :: x15 :: x16 :: x17 :: x18 :: x19 :: x20 :: x21 :: r) 20 = true) (k : AW K X own cc nL ret dep pc' (x0 :: x1 :: x2 :: x3 :: x4 :: x5 :: x6 :: x7 :: x8 :: x9 :: x10 :: x11 :: x12 :: x13 :: x14 :: x15 :: x16 :: x17 :: x18 :: x19 :: some (vL v) :: none :: r) st h) (hp : pc + 2 = pc' := by rfl) : AW K X own cc nL ret dep pc (x0 :: x1 :: x2 :: x3 :: x4 :: x5 :: x6 :: x7 :: x8 :: x9 :: x10 :: x11 :: x12 :: x13 :: x14 :: x15 :: x16 :: x17 :: x18 :: x19 :: x20 :: x21 :: r) (vL v :: st) h := AW.lstore hd hn hok rfl k hp
theorem AW.iinc20 {v n : Int} {x0 x1 x2 x3 x4 x5 x6 x7 x8 x9 x10 x11 x12 x13 x14 x15 x16 x17 x18 x19 : Option AV} (hd : decode cc pc = .ok (.iinc 20 n, 3)) (hn : 21 ≤ nL) (hok : okl (x0 :: x1 :: x2 :: x3 :: x4 :: x5 :: x6 :: x7 :: x8 :: x9 :: x10 :: x11 :: x12 :: x13 :: x14 :: x15 :: x16 :: x17 :: x18 :: x19 :: some (vI v) :: r) 20 = true) (k : AW K X own cc nL ret dep pc' (x0 :: x1 :: x2 :: x3 :: x4 :: x5 :: x6 :: x7 :: x8 :: x9 :: x10 :: x11 :: x12 :: x13 :: x14 :: x15 :: x16 :: x17 :: x18 :: x19 :: some (vI (v + n)) :: r) st h) (hp : pc + 3 = pc' := by rfl) : AW K X own cc nL ret dep pc (x0 :: x1 :: x2 :: x3 :: x4 :: x5 :: x6 :: x7 :: x8 :: x9 :: x10 :: x11 :: x12 :: x13 :: x14 :: x15 :: x16 :: x17 :: x18 :: x19 :: some (vI v) :: r) st h := AW.iinc hd rfl hn hok rfl k hp
theorem AW.istore21 {v : Int} {x0 x1 x2 x3 x4 x5 x6 x7 x8 x9 x10 x11 x12 x13 x14 x15 x16 x17 x18 x19 x20 x21 : Option AV} (hd : decode cc pc = .ok (.istore 21, 2)) (hn : 22 ≤ nL) (hok : okl (x0 :: x1 :: x2 :: x3 :: x4 :: x5 :: x6 :: x7 :: x8 :: x9 :: x10 :: x11 :: x12 :: x13 :: x14 :: x15 :: x16 :: x17 :: x18 :: x19 :: x20 :: x21 :: r) 21 = true) (k : AW K X own cc nL ret dep pc' (x0 :: x1 :: x2 :: x3 :: x4 :: x5 :: x6 :: x7 :: x8 :: x9 :: x10 :: x11 :: x12 :: x13 :: x14 :: x15 :: x16 :: x17 :: x18 :: x19 :: x20 :: some (vI v) :: r) st h) (hp : pc + 2 = pc' := by rfl) : AW K X own cc nL ret dep pc (x0 :: x1 :: x2 :: x3 :: x4 :: x5 :: x6 :: x7 :: x8 :: x9 :: x10 :: x11 :: x12 :: x13 :: x14 :: x15 :: x16 :: x17 :: x18 :: x19 :: x20 :: x21 :: r) (vI v :: st) h := AW.istore hd hn hok rfl k hp
theorem AW.lstore21 {v : Int} {x0 x1 x2 x3 x4 x5 x6 x7 x8 x9 x10 x11 x12 x13 x14 x15 x16 x17 x18 x19 x20 x21 x22 : Option AV} (hd : decode cc pc = .ok (.lstore 21, 2)) (hn : 23 ≤ nL) (hok : okl (x0 :: x1 :: x2 :: x3 :: x4 :: x5 :: x6 :: x7 :: x8 :: x9 :: x10 :: x11 :: x12 :: x13 :: x14 :: x15 :: x16 :: x17 :: x18 :: x19 :: x20 :: x21 :: x22 :: r) 21 = true) (k : AW K X own cc nL ret dep pc' (x0 :: x1 :: x2 :: x3 :: x4 :: x5 :: x6 :: x7 :: x8 :: x9 :: x10 :: x11 :: x12 :: x13 :: x14 :: x15 :: x16 :: x17 :: x18 :: x19 :: x20 :: some (vL v) :: none :: r) st h) (hp : pc + 2 = pc' := by rfl) : AW K X own cc nL ret dep pc (x0 :: x1 :: x2 :: x3 :: x4 :: x5 :: x6 :: x7 :: x8 :: x9 :: x10 :: x11 :: x12 :: x13 :: x14 :: x15 :: x16 :: x17 :: x18 :: x19 :: x20 :: x21 :: x22 :: r) (vL v :: st) h := AW.lstore hd hn hok rfl k hp
theorem AW.iinc21 {v n : Int} {x0 x1 x2 x3 x4 x5 x6 x7 x8 x9 x10 x11 x12 x13 x14 x15 x16 x17 x18 x19 x20 : Option AV} (hd : decode cc pc = .ok (.iinc 21 n, 3)) (hn : 22 ≤ nL) (hok : okl (x0 :: x1 :: x2 :: x3 :: x4 :: x5 :: x6 :: x7 :: x8 :: x9 :: x10 :: x11 :: x12 :: x13 :: x14 :: x15 :: x16 :: x17 :: x18 :: x19 :: x20 :: some (vI v) :: r) 21 = true) (k : AW K X own cc nL ret dep pc' (x0 :: x1 :: x2 :: x3 :: x4 :: x5 :: x6 :: x7 :: x8 :: x9 :: x10 :: x11 :: x12 :: x13 :: x14 :: x15 :: x16 :: x17 :: x18 :: x19 :: x20 :: some (vI (v + n)) :: r) st h) (hp : pc + 3 = pc' := by rfl) : AW K X own cc nL ret dep pc (x0 :: x1 :: x2 :: x3 :: x4 :: x5 :: x6 :: x7 :: x8 :: x9 :: x10 :: x11 :: x12 :: x13 :: x14 :: x15 :: x16 :: x17 :: x18 :: x19 :: x20 :: some (vI v) :: r) st h := AW.iinc hd rfl hn hok rfl k hp
theorem AW.ialdN {k n : Nat} {tl : List Nat} {i : Nat} {ls : List (Option AV)} (hd : decode cc pc = .ok (.iaload, 1)) (hk : LY[k]? = some (1, n, tl)) (h1 : (i : Int) < n) (hn : n ≤ 2147483647) (kk : inI (h k i) → AW K X own cc nL ret dep pc' ls (vI (h k i) :: st) h) (hp : pc + 1 = pc' := by rfl) : AW K X own cc nL ret dep pc ls (vI (i : Int) :: vR k :: st) h := AW.iald hd hk (by omega) h1 hn (by simpa using kk) hp
theorem AW.laldN {k n : Nat} {tl : List Nat} {i : Nat} {ls : List (Option AV)} (hd : decode cc pc = .ok (.laload, 1)) (hk : LY[k]? = some (3, n, tl)) (h1 : (i : Int) < n) (hn : n ≤ 2147483647) (kk : inL (h k i) → AW K X own cc nL ret dep pc' ls (vL (h k i) :: st) h) (hp : pc + 1 = pc' := by rfl) : AW K X own cc nL ret dep pc ls (vI (i : Int) :: vR k :: st) h := AW.lald hd hk (by omega) h1 hn (by simpa using kk) hp
theorem AW.iastN {k n : Nat} {tl : List Nat} {i : Nat} {a : Int} {ls : List (Option AV)} (hd : decode cc pc = .ok (.iastore, 1)) (hk : LY[k]? = some (1, n, tl)) (h1 : (i : Int) < n) (hn : n ≤ 2147483647) (ha : inI a) (kk : AW K X own cc nL ret dep pc' ls st (hset h k i a)) (hp : pc + 1 = pc' := by rfl) : AW K X own cc nL ret dep pc ls (vI a :: vI (i : Int) :: vR k :: st) h := AW.iast hd hk (by omega) h1 hn ha (by simpa using kk) hp
theorem AW.lastN {k n : Nat} {tl : List Nat} {i : Nat} {a : Int} {ls : List (Option AV)} (hd : decode cc pc = .ok (.lastore, 1)) (hk : LY[k]? = some (3, n, tl)) (h1 : (i : Int) < n) (hn : n ≤ 2147483647) (ha : inL a) (kk : AW K X own cc nL ret dep pc' ls st (hset h k i a)) (hp : pc + 1 = pc' := by rfl) : AW K X own cc nL ret dep pc ls (vL a :: vI (i : Int) :: vR k :: st) h := AW.last hd hk (by omega) h1 hn ha (by simpa using kk) hp
end AWS
theorem kX11_93 : Cond.constant RX11 93 (Int32.ofInt (100999)) ∈ wsL_law := (show ((100999) : Int32) = Int32.ofInt (100999) by decide +kernel) ▸ coX11_93
theorem kX12_121 : Cond.constant RX12 121 (Int32.ofInt (100999)) ∈ wsL_law := (show ((100999) : Int32) = Int32.ofInt (100999) by decide +kernel) ▸ coX12_121
theorem kX11_136 : Cond.constant RX11 136 (Int32.ofInt (-2000000000)) ∈ wsL_law := (show ((-2000000000) : Int32) = Int32.ofInt (-2000000000) by decide +kernel) ▸ coX11_136
theorem kX12_156 : Cond.constant RX12 156 (Int32.ofInt (-2000000000)) ∈ wsL_law := (show ((-2000000000) : Int32) = Int32.ofInt (-2000000000) by decide +kernel) ▸ coX12_156
theorem kJ2_227 : Cond.constant RJ2 227 (Int32.ofInt (65536)) ∈ wsL_law := (show ((65536) : Int32) = Int32.ofInt (65536) by decide +kernel) ▸ coJ2_227
theorem kJ11_110 : Cond.constant RJ11 110 (Int32.ofInt (55232)) ∈ wsL_law := (show ((55232) : Int32) = Int32.ofInt (55232) by decide +kernel) ▸ coJ11_110
theorem kJ11_76 : Cond.constant RJ11 76 (Int32.ofInt (56320)) ∈ wsL_law := (show ((56320) : Int32) = Int32.ofInt (56320) by decide +kernel) ▸ coJ11_76
theorem kX11_197 : Cond.constant RX11 197 (Int32.ofInt (1103515245)) ∈ wsL_law := (show ((1103515245) : Int32) = Int32.ofInt (1103515245) by decide +kernel) ▸ coX11_197
theorem kX12_252 : Cond.constant RX12 252 (Int32.ofInt (1103515245)) ∈ wsL_law := (show ((1103515245) : Int32) = Int32.ofInt (1103515245) by decide +kernel) ▸ coX12_252
theorem kX2_73 : Cond.constant RX2 73 (Int32.ofInt (-2000000000)) ∈ wsL_law := (show ((-2000000000) : Int32) = Int32.ofInt (-2000000000) by decide +kernel) ▸ coX2_73
theorem kX10_29 : Cond.constant RX10 29 (Int32.ofInt (-2000000000)) ∈ wsL_law := (show ((-2000000000) : Int32) = Int32.ofInt (-2000000000) by decide +kernel) ▸ coX10_29
theorem klL_142 : Cond.constantLong RL 142 (Int64.ofInt (4294967295)) ∈ wsL_law := (show ((4294967295) : Int64) = Int64.ofInt (4294967295) by decide +kernel) ▸ colL_142
theorem klX11_119 : Cond.constantLong RX11 119 (Int64.ofInt (5)) ∈ wsL_law := (show ((5) : Int64) = Int64.ofInt (5) by decide +kernel) ▸ colX11_119
theorem klX7_68 : Cond.constantLong RX7 68 (Int64.ofInt (1000)) ∈ wsL_law := (show ((1000) : Int64) = Int64.ofInt (1000) by decide +kernel) ▸ colX7_68
theorem klX2_49 : Cond.constantLong RX2 49 (Int64.ofInt (1000)) ∈ wsL_law := (show ((1000) : Int64) = Int64.ofInt (1000) by decide +kernel) ▸ colX2_49
theorem klX10_30 : Cond.constantLong RX10 30 (Int64.ofInt (1000)) ∈ wsL_law := (show ((1000) : Int64) = Int64.ofInt (1000) by decide +kernel) ▸ colX10_30
theorem klX11_283 : Cond.constantLong RX11 283 (Int64.ofInt (4)) ∈ wsL_law := (show ((4) : Int64) = Int64.ofInt (4) by decide +kernel) ▸ colX11_283
theorem klX11_289 : Cond.constantLong RX11 289 (Int64.ofInt (999)) ∈ wsL_law := (show ((999) : Int64) = Int64.ofInt (999) by decide +kernel) ▸ colX11_289
theorem klX12_337 : Cond.constantLong RX12 337 (Int64.ofInt (4)) ∈ wsL_law := (show ((4) : Int64) = Int64.ofInt (4) by decide +kernel) ▸ colX12_337
theorem klX11_325 : Cond.constantLong RX11 325 (Int64.ofInt (-9223372036854775808)) ∈ wsL_law := (show ((-9223372036854775808) : Int64) = Int64.ofInt (-9223372036854775808) by decide +kernel) ▸ colX11_325
theorem klX12_370 : Cond.constantLong RX12 370 (Int64.ofInt (-9223372036854775808)) ∈ wsL_law := (show ((-9223372036854775808) : Int64) = Int64.ofInt (-9223372036854775808) by decide +kernel) ▸ colX12_370
