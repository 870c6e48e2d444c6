/-! constructors: rows that make cells -/
theorem va_RA_inj {U : State} {c1 c2 : ClassId} {ty : FieldType} (a : va_RA U c1 ty) (b : va_RA U c2 ty) : c1 = c2 := by
  cases ty with
  | object C =>
    obtain ⟨_, _, _, _, _, a4⟩ := a
    obtain ⟨_, _, _, _, _, b4⟩ := b
    exact Option.some.inj (a4.symm.trans b4)
  | _ => exact Option.some.inj ((show U.vm.findClass _ = some c1 from a).symm.trans b)
section CTR
variable {p : Program} {l : Launch} {e : Env} {R : Room} {s : State} {m : MethodId} {args : Array Value} {below : List Frame} {meth : Method} {c : Code} {H H0 : Heap} {locs : List Loc} {cells slots : Nat} {Q : State → Prop} {A : Nat → Prop} {D : va_G} {cl : List vw_C} {tys : List (ClassId × FieldType)} {ws : va_W} {cc : ByteArray} {pc : Nat} {ls : Array Slot} {rest : List Value}
theorem cw_newa (hexec : p.tables.exec = Jvm.exec) (hb : c.code = cc) {atype : ArrayType} (harr : (Cond.arrayClass (newarray.typeOf atype)).before args s = true) {ty : FieldType} (hty : newarray.typeOf atype = ty) (hK : va_K D cl tys s) (hP : va_P D cl ws H) (hD : va_D A ws) (hS : va_S A H0 H locs) (hA : ∀ q, H0.size ≤ q → A q)
    {n : Int32} {N' : Nat} {a0 : vp_A} (ha : ∀ cA : ClassId, vp_cell cA a0 = arrV cA N' (fun _ => defaultValue ty)) (hn : ¬ n < 0) (hN : n.toNatClampNeg = N') (hbytes : N' * componentBytes ty ≤ 536870912) (hcells : cells + 1 ≤ R.cells) (hslots : slots + N' ≤ R.slots) (hdg : decode cc pc = .ok (.newarray atype, 2)) {t0 : Nat} {c1 : ClassId} (ht : tys[t0]? = some (c1, ty))
    (kk : ∀ (q : Nat) (H1 : Heap), va_P D cl (ws ++ [(q, .inl (c1, a0))]) H1 → va_D A (ws ++ [(q, .inl (c1, a0))]) → va_S A H0 H1 locs →
      W p l e R s m args below meth c H1 locs (cells + 1) (slots + N') Q (F0 m (pc + 2) ls (.ref q :: rest))) : W p l e R s m args below meth c H locs cells slots Q (F0 m pc ls (.int n :: rest)) := by
  refine va_newa hexec hb harr hty hK hP hD hS hA ha hn hN hbytes hcells hslots hdg (fun q cA H1 kK kP kD kS => ?_)
  have e1 : cA = c1 := va_RA_inj (kK.2 tys.length (cA, ty) (by simp)).2 (hK.2 t0 (c1, ty) ht).2
  subst e1
  exact kk q H1 kP kD kS
theorem va_D_app {sz : Nat} {w : va_W} (hD : va_D A ws) (hlt : ∀ (k : Nat) (q : Nat × va_E), ws[k]? = some q → q.1 < sz) (hw : ∀ (i : Nat) (q : Nat × va_E), w[i]? = some q → q.1 = sz + i) (hA : ∀ q, sz ≤ q → A q) : va_D A (ws ++ w) := by
  have key : ∀ (k : Nat) (q : Nat × va_E), (ws ++ w)[k]? = some q → (k < ws.length ∧ ws[k]? = some q) ∨ (ws.length ≤ k ∧ q.1 = sz + (k - ws.length)) := fun k q h => by
    by_cases z : k < ws.length
    · rw [List.getElem?_append_left z] at h
      exact Or.inl ⟨z, h⟩
    · rw [List.getElem?_append_right (by omega)] at h
      exact Or.inr ⟨by omega, hw _ _ h⟩
  refine ⟨fun i j x y hi hj hxy => ?_, fun k q hk => ?_⟩
  · rcases key i x hi with ⟨a1, a2⟩ | ⟨a1, a2⟩
    · rcases key j y hj with ⟨b1, b2'⟩ | ⟨b1, b2'⟩
      · exact hD.1 i j x y a2 b2' hxy
      · have := hlt _ _ a2
        omega
    · rcases key j y hj with ⟨b1, b2'⟩ | ⟨b1, b2'⟩
      · have := hlt _ _ b2'
        omega
      · omega
  · rcases key k q hk with ⟨a1, a2⟩ | ⟨a1, a2⟩
    · exact hD.2 k q a2
    · exact hA _ (by omega)
theorem arrV_cong {cI : ClassId} {N : Nat} {f g : Nat → Value} (h : ∀ j : Nat, j < N → f j = g j) : arrV cI N f = arrV cI N g := by
  unfold arrV
  have e : (fun j : Fin N => f j.val) = fun j : Fin N => g j.val := funext fun j => h j.val j.isLt
  rw [e]
theorem mnF_full (cA : ClassId) (N h : Nat) : arrV cA N (mnF h N) = arrV cA N (fun j => .ref (h + 1 + j)) := arrV_cong (fun j hj => if_pos hj)
theorem cw_mnew (hexec : p.tables.exec = Jvm.exec) (hb : c.code = cc) {own : String} {index : Nat} {ty : FieldType} (hown : s.vm.findClass own = some m.cls) (hclink : (Cond.classLink own index ("[" ++ (FieldType.array ty).toString)).before args s = true) (hover : (Cond.arrayOver (.array ty)).before args s = true) (harr : (Cond.arrayClass ty).before args s = true) (hK : va_K D cl tys s) (hP : va_P D cl ws H) (hD : va_D A ws) (hS : va_S A H0 H locs) (hA : ∀ q, H0.size ≤ q → A q)
    {n k : Int32} {N M : Nat} {a0 : vp_A} (ha : ∀ cA : ClassId, vp_cell cA a0 = arrV cA M (fun _ => defaultValue ty)) (hn : ¬ n < 0) (hk : ¬ k < 0) (hN : n.toNatClampNeg = N) (hM : k.toNatClampNeg = M) (hb1 : N * 4 ≤ 536870912) (hb2 : M * componentBytes ty ≤ 536870912) (hb3 : M ≤ 536870912) (hdf : fits ty (defaultValue ty) = true) (hdd : (defaultValue ty).isDefault = true) (hcells : cells + (1 + N) ≤ R.cells) (hslots : slots + (N + N * M) ≤ R.slots) (hdg : decode cc pc = .ok (.multianewarray index 2, 4))
    {t1 : Nat} {c1 : ClassId} (ht1 : tys[t1]? = some (c1, ty)) (hn1 : s.vm.findClass (FieldType.array ty).toString = some c1) {t2 : Nat} {c2 : ClassId} (ht2 : tys[t2]? = some (c2, .array ty))
    (kk : ∀ (q : Nat) (H1 : Heap), va_P D cl (ws ++ ((q, .inl (c2, N, .inr (.inr (.inr (.inr (fun j => some (q + 1 + j))))))) :: (List.range N).map (fun j => (q + 1 + j, .inl (c1, a0))))) H1 → va_D A (ws ++ ((q, .inl (c2, N, .inr (.inr (.inr (.inr (fun j => some (q + 1 + j))))))) :: (List.range N).map (fun j => (q + 1 + j, .inl (c1, a0))))) → va_S A H0 H1 locs →
      W p l e R s m args below meth c H1 locs (cells + (1 + N)) (slots + (N + N * M)) Q (F0 m (pc + 4) ls (.ref q :: rest))) : W p l e R s m args below meth c H locs cells slots Q (F0 m pc ls (.int k :: .int n :: rest)) := by
  intro T hT X
  subst hT
  subst hb
  obtain ⟨vm₁, cA, comp, hfA, hfC, X1, st⟩ := mn_walk X hexec hown hclink hover harr (g := F0 m pc ls (.int k :: .int n :: rest)) rfl hdg rfl hn hk hN hM hb1 hb2 hb3 hdf hdd hcells hslots
  have e2 : cA = c2 := Option.some.inj (hfA.symm.trans (show s.vm.findClass _ = some c2 from (hK.2 t2 _ ht2).2))
  have e1 : comp = c1 := Option.some.inj (hfC.symm.trans hn1)
  subst e2
  subst e1
  have f1 : (mnS (T.setVm vm₁) cA comp N M (defaultValue ty) N).heap.size = T.heap.size + 1 + N := mnS_size (T.setVm vm₁) cA comp N M (defaultValue ty) N
  have f2 : (mnS (T.setVm vm₁) cA comp N M (defaultValue ty) N).heap[T.heap.size]? = some (arrV cA N (fun j => .ref (T.heap.size + 1 + j))) := by
    rw [← mnF_full]
    exact mnS_base (T.setVm vm₁) cA comp N M (defaultValue ty) N
  have fi : ∀ j : Nat, j < N → (mnS (T.setVm vm₁) cA comp N M (defaultValue ty) N).heap[T.heap.size + 1 + j]? = some (arrV comp M (fun _ => defaultValue ty)) := fun j hj => mnS_row (T.setVm vm₁) cA comp N M (defaultValue ty) N hj
  have fo : ∀ a : Nat, a < T.heap.size → (mnS (T.setVm vm₁) cA comp N M (defaultValue ty) N).heap[a]? = T.heap[a]? := fun a ha => mnS_old (T.setVm vm₁) cA comp N M (defaultValue ty) ha N
  have hw : ∀ (i : Nat) (q : Nat × va_E), (((T.heap.size, .inl (cA, N, .inr (.inr (.inr (.inr (fun j => some (T.heap.size + 1 + j))))))) :: (List.range N).map (fun j => (T.heap.size + 1 + j, .inl (comp, a0)))) : va_W)[i]? = some q → q.1 = T.heap.size + i := fun i q hq => by
    cases i with
    | zero =>
      simp at hq
      rw [← hq]
      rfl
    | succ i =>
      rw [List.getElem?_cons_succ, List.getElem?_map] at hq
      by_cases z : i < N
      · rw [List.getElem?_range z] at hq
        simp at hq
        rw [← hq]
        show T.heap.size + 1 + i = T.heap.size + (i + 1)
        omega
      · rw [List.getElem?_eq_none (by simp; omega)] at hq
        simp at hq
  obtain ⟨t, a1, b1⟩ := kk T.heap.size _ ((hP.kept (fun k x hx => fo x.1 ((hP k x hx).lt))).app (fun i q hq => by
    cases i with
    | zero =>
      simp at hq
      rw [← hq]
      show (mnS _ _ _ _ _ _ _).heap[T.heap.size]? = some (vp_cell _ _)
      rw [f2]
      rfl
    | succ i =>
      rw [List.getElem?_cons_succ, List.getElem?_map] at hq
      by_cases z : i < N
      · rw [List.getElem?_range z] at hq
        simp at hq
        rw [← hq]
        show (mnS _ _ _ _ _ _ _).heap[T.heap.size + 1 + i]? = some (vp_cell _ _)
        rw [fi i z, ha]
      · rw [List.getElem?_eq_none (by simp; omega)] at hq
        simp at hq)) (va_D_app hD (fun k q hk => (hP k q hk).lt) hw (fun q hq => hA q (Nat.le_trans hS.1 hq))) ⟨by rw [f1]; exact Nat.le_trans hS.1 (by omega), fun q h1 h2 => (fo q (Nat.lt_of_lt_of_le h1 hS.1)).trans (hS.2.1 q h1 h2), hS.2.2⟩ _ rfl X1
  exact ⟨t, st _ a1, b1⟩
end CTR
