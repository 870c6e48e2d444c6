/-! an array of arrays, made at once: what the instruction leaves, row by row (from the model's own words; nothing of the library's last shelf) -/
def mnF (h i : Nat) : Nat → Value := fun j => if j < i then .ref (h + 1 + j) else .null
theorem mnF_zero (h : Nat) : mnF h 0 = fun _ => Value.null := by
  funext j
  exact if_neg (Nat.not_lt_zero j)
theorem mnF_next (h i : Nat) : updV (mnF h i) i (.ref (h + 1 + i)) = mnF h (i + 1) := by
  funext j
  show (if j = i then Value.ref (h + 1 + i) else if j < i then Value.ref (h + 1 + j) else Value.null) = if j < i + 1 then Value.ref (h + 1 + j) else Value.null
  by_cases z : j = i
  · rw [if_pos z, if_pos (by omega), z]
  · rw [if_neg z]
    by_cases y : j < i
    · rw [if_pos y, if_pos (by omega)]
    · rw [if_neg y, if_neg (by omega)]
/-- the state behind `i` of the rows -/
def mnS (T : State) (cA cB : ClassId) (N M : Nat) (v : Value) : Nat → State
  | 0 => T.pushCell (arrV cA N (mnF T.heap.size 0))
  | i + 1 => ((mnS T cA cB N M v i).pushCell (arrV cB M (fun _ => v))).setCell T.heap.size (arrV cA N (mnF T.heap.size (i + 1)))
section MN1
variable (T : State) (cA cB : ClassId) (N M : Nat) (v : Value)
theorem mnS_size : ∀ i : Nat, (mnS T cA cB N M v i).heap.size = T.heap.size + 1 + i
  | 0 => by simp [mnS]
  | i + 1 => by
    have ih := mnS_size i
    show (((mnS T cA cB N M v i).pushCell (arrV cB M (fun _ => v))).setCell T.heap.size _).heap.size = _
    rw [size_setCell]
    simp [ih]
    omega
theorem mnS_vm : ∀ i : Nat, (mnS T cA cB N M v i).vm = T.vm
  | 0 => rfl
  | i + 1 => mnS_vm i
theorem mnS_used : ∀ i : Nat, (mnS T cA cB N M v i).slotsUsed = T.slotsUsed + N + i * M
  | 0 => by simp [mnS, arrV_size]
  | i + 1 => by
    have ih := mnS_used i
    simp [mnS, ih, arrV_size, Nat.succ_mul]
    omega
theorem mnS_top (g : JFrame) : ∀ i : Nat, mnS (T.setTop g) cA cB N M v i = (mnS T cA cB N M v i).setTop g
  | 0 => rfl
  | i + 1 => by
    have ih := mnS_top g i
    simp only [mnS, ih, State.heap_setTop, State.pushCell_setTop, State.setCell_setTop]
theorem mnS_base : ∀ i : Nat, (mnS T cA cB N M v i).heap[T.heap.size]? = some (arrV cA N (mnF T.heap.size i))
  | 0 => State.heap_pushCell_size _ _
  | i + 1 => by
    have lt : T.heap.size < (mnS T cA cB N M v i).heap.size := by rw [mnS_size]; omega
    have b : ((mnS T cA cB N M v i).pushCell (arrV cB M (fun _ => v))).heap[T.heap.size]? = some (arrV cA N (mnF T.heap.size i)) := by
      rw [State.heap_pushCell_of_lt (h := lt)]
      exact mnS_base i
    exact State.heap_setCell_self b
theorem mnS_away {a : Addr} (ha : a ≠ T.heap.size) (i : Nat) : (mnS T cA cB N M v (i + 1)).heap[a]? = ((mnS T cA cB N M v i).pushCell (arrV cB M (fun _ => v))).heap[a]? :=
  State.heap_setCell_other (Ne.symm ha)
theorem mnS_old {a : Addr} (ha : a < T.heap.size) : ∀ i : Nat, (mnS T cA cB N M v i).heap[a]? = T.heap[a]?
  | 0 => State.heap_pushCell_of_lt _ _ ha
  | i + 1 => by
    have lt : a < (mnS T cA cB N M v i).heap.size := Nat.lt_of_lt_of_le ha (by rw [mnS_size]; omega)
    rw [mnS_away T cA cB N M v (Nat.ne_of_lt ha) i, State.heap_pushCell_of_lt (h := lt)]
    exact mnS_old ha i
theorem mnS_row {j : Nat} : ∀ i : Nat, j < i → (mnS T cA cB N M v i).heap[T.heap.size + 1 + j]? = some (arrV cB M (fun _ => v))
  | 0, h => absurd h (Nat.not_lt_zero j)
  | i + 1, h => by
    rw [mnS_away T cA cB N M v (show T.heap.size + 1 + j ≠ T.heap.size by omega) i]
    by_cases z : j < i
    · have lt : T.heap.size + 1 + j < (mnS T cA cB N M v i).heap.size := by rw [mnS_size]; omega
      rw [State.heap_pushCell_of_lt (h := lt)]
      exact mnS_row i z
    · have e : T.heap.size + 1 + j = (mnS T cA cB N M v i).heap.size := by rw [mnS_size]; omega
      rw [e]
      exact State.heap_pushCell_size _ _
theorem mnS_step (i : Nat) : mnS T cA cB N M v (i + 1) = ((mnS T cA cB N M v i).pushCell (arrV cB M (fun _ => v))).setCell T.heap.size ((arrV cA N (mnF T.heap.size i)).setSlot i (.ref (T.heap.size + 1 + i))) := by
  rw [arrV_store, mnF_next]
  rfl
end MN1
section MN2
variable {E : CtlPost} {e : Env} {d : Bool} {acts : List Action} {u : State}
/-- one array, as the model makes it -/
theorem mn_one {cA cB : ClassId} {k : Class} {ty : FieldType} {N : Nat} {v : Value} (hk : u.vm.classes[cA]? = some k) (hkind : k.kind = .array cB ty) (hv : fits ty v = true) (hd : v.isDefault = true)
    (hl : ¬ N > e.platform.arrayLengthLimit) (hb : ¬ N * componentBytes ty > e.platform.maxHeapBytes) (hc : u.heap.size + 1 ≤ e.platform.maxCells) (hs : u.slotsUsed + N ≤ e.platform.maxSlots) {Q : Addr → Pre}
    (hq : Q u.heap.size d acts (u.pushCell (arrV cA N (fun _ => v)))) : wp (Jvm.newArray cA N v) Q E e d acts u := by
  rw [← arrV_new] at hq
  have room : ¬ N > e.platform.maxSlots := by omega
  have quiet : allocActs (Array.replicate N v) u.heap.size acts = acts := by
    have every : ((Array.replicate N v).all (·.isDefault)) = true := by
      rw [Array.all_replicate, hd]
      simp
    unfold allocActs
    exact if_pos every
  simp only [Jvm.newArray, Jvm.arrayFits, wp_bind', wp_pure', W.ask, W.ite, W.stop, W.theClass, W.alloc, if_neg hl, if_neg hb, if_neg room, hk, hkind, Option.some.injEq, exists_eq_left', Array.size_replicate, quiet]
  refine ⟨Nat.lt_of_succ_le hc, hs, fun j w hw => ?_, hq⟩
  have e1 : v = w := by
    rw [Array.getElem?_replicate] at hw
    by_cases z : j < N
    · rw [if_pos z] at hw
      exact Option.some.inj hw
    · rw [if_neg z] at hw
      cases hw
  subst e1
  simp [State.fitsSlot, State.slotType?, hk, hkind, hv]
end MN2
section MN3
variable {E : CtlPost} {e : Env} {d : Bool} {acts : List Action} {u : State}
/-- the two levels, outermost first -/
theorem mn_two {cA cB cC : ClassId} {kA kB : Class} {ty : FieldType} {n k : Int32} {N M : Nat} (hN : n.toNatClampNeg = N) (hM : k.toNatClampNeg = M) (hkA : u.vm.classes[cA]? = some kA) (hA : kA.kind = .array cB (.array ty)) (hkB : u.vm.classes[cB]? = some kB) (hB : kB.kind = .array cC ty) (hn : ¬ n < 0) (hk : ¬ k < 0)
    (hl1 : ¬ N > e.platform.arrayLengthLimit) (hb1 : ¬ N * componentBytes (.array ty) > e.platform.maxHeapBytes) (hl2 : ¬ M > e.platform.arrayLengthLimit) (hb2 : ¬ M * componentBytes ty > e.platform.maxHeapBytes)
    (hdf : fits ty (defaultValue ty) = true) (hdd : (defaultValue ty).isDefault = true) (hc : u.heap.size + (1 + N) ≤ e.platform.maxCells) (hs : u.slotsUsed + (N + N * M) ≤ e.platform.maxSlots)
    {Q : Addr → Pre} (hq : ∀ (d' : Bool) (acts' : List Action), Q u.heap.size d' acts' (mnS u cA cB N M (defaultValue ty) N)) : wp (multianewarray.make cA [n, k]) Q E e d acts u := by
  have none_below : ([k].find? (· < 0)) = none := by simp [hk]
  rw [multianewarray.make]
  simp only [wp_bind', wp_pure', W.ite, if_neg hn, W.theClass, hkA, hA, Option.some.injEq, exists_eq_left']
  rw [hN]
  refine mn_one hkA hA rfl rfl hl1 hb1 (by omega) (by omega) ?_
  rw [← mnF_zero u.heap.size]
  simp only [none_below]
  rw [ite_self, wp_bind', Std.Legacy.Range.forIn_eq_forIn_range']
  have len : ([:N] : Std.Legacy.Range).size = N := by simp [Std.Legacy.Range.size]
  rw [len]
  refine wp_forIn_inv (fun (left : List Nat) (U : State) => left.length ≤ N ∧ left = List.range' (N - left.length) left.length ∧ U = mnS u cA cB N M (defaultValue ty) (N - left.length)) _ _ ?_ ?_ ?_
  · show (List.range' 0 N 1).length ≤ N ∧ _ ∧ _
    rw [List.length_range', Nat.sub_self]
    exact ⟨Nat.le_refl N, rfl, rfl⟩
  · rintro x left U d' acts' Q' ⟨h1, h2, h3⟩ go
    rw [List.length_cons] at h1 h2 h3
    rw [List.range'_succ] at h2
    obtain ⟨e1, e2⟩ := List.cons.inj h2
    rw [← e1] at h3
    have hx : x + 1 + left.length = N := by omega
    subst h3
    have sz := mnS_size u cA cB N M (defaultValue ty) x
    have us := mnS_used u cA cB N M (defaultValue ty) x
    have mul : x * M + M ≤ N * M := by
      have := Nat.mul_le_mul_right M (show x + 1 ≤ N by omega)
      rw [Nat.succ_mul] at this
      exact this
    simp only [wp_bind']
    rw [multianewarray.make]
    simp only [wp_bind', wp_pure', W.ite, if_neg hk, W.theClass, mnS_vm, hkB, hB, Option.some.injEq, exists_eq_left']
    rw [hM]
    refine mn_one (by rw [mnS_vm]; exact hkB) hB hdf hdd hl2 hb2 (by omega) (by omega) ?_
    have lt : u.heap.size < (mnS u cA cB N M (defaultValue ty) x).heap.size := by omega
    simp only [wp_bind', W.writeLoc, wp_pure']
    refine ⟨arrV cA N (mnF u.heap.size x), by rw [State.heap_pushCell_of_lt (h := lt)]; exact mnS_base u cA cB N M (defaultValue ty) x, by simp [arrV], by rw [arrV_size]; omega, ?_, ?_⟩
    · simp [arrV, State.fitsSlot, State.slotType?, mnS_vm, hkA, hA, fits]
    · rw [sz, ← mnS_step]
      exact go _ _ _ ⟨by omega, by rw [show N - left.length = x + 1 by omega, e2]; simp [e1], by rw [show N - left.length = x + 1 by omega]⟩
  · rintro U d' acts' ⟨-, -, h3⟩
    subst h3
    simp only [wp_pure']
    exact hq _ _
end MN3
section MN4
variable {p : Program} {l : Launch} {e : Env} {R : Room} {s : State} {m : MethodId} {args : Array Value} {below : List Frame} {meth : Method} {c : Code} {T : State} {locs : List Loc} {cells slots : Nat}
theorem mn_stand (X : Stand p l e R s m args below meth c T locs cells slots) (cA cB : ClassId) (N M : Nat) (v : Value) : ∀ i : Nat, Stand p l e R s m args below meth c (mnS T cA cB N M v i) locs (cells + 1 + i) (slots + N + i * M)
  | 0 => by
    have h := X.pushed (arrV cA N (mnF T.heap.size 0))
    rw [arrV_size] at h
    simpa [mnS] using h
  | i + 1 => by
    have lt : T.heap.size < (mnS T cA cB N M v i).heap.size := by rw [mnS_size]; omega
    have b : ((mnS T cA cB N M v i).pushCell (arrV cB M (fun _ => v))).heap[T.heap.size]? = some (arrV cA N (mnF T.heap.size i)) := by
      rw [State.heap_pushCell_of_lt (h := lt)]
      exact mnS_base T cA cB N M v i
    have Z := (((mn_stand X cA cB N M v i).pushed (arrV cB M (fun _ => v))).stored b i (.ref (T.heap.size + 1 + i))).dropFresh (fun x hx => by
      rw [List.mem_singleton] at hx
      subst hx
      exact X.heapGrown)
    rw [← mnS_step, arrV_size] at Z
    rw [show slots + N + (i + 1) * M = slots + N + i * M + M by rw [Nat.succ_mul]; omega]
    exact Z
theorem mn_walk (X : Stand p l e R s m args below meth c T locs cells slots) (hexec : p.tables.exec = Jvm.exec) {own : String} {index : Nat} {ty : FieldType} (hown : s.vm.findClass own = some m.cls) (hclink : (Cond.classLink own index ("[" ++ (FieldType.array ty).toString)).before args s = true) (hover : (Cond.arrayOver (.array ty)).before args s = true) (harr : (Cond.arrayClass ty).before args s = true)
    {g : JFrame} (hg : g.method = m) (hdg : decode c.code g.pc = .ok (.multianewarray index 2, 4)) {n k : Int32} {N M : Nat} {rest : List Value} (hstack : g.stack = .int k :: .int n :: rest) (hn : ¬ n < 0) (hk : ¬ k < 0) (hN : n.toNatClampNeg = N) (hM : k.toNatClampNeg = M) (hb1 : N * 4 ≤ 536870912) (hb2 : M * componentBytes ty ≤ 536870912) (hb3 : M ≤ 536870912)
    (hdf : fits ty (defaultValue ty) = true) (hdd : (defaultValue ty).isDefault = true) (hcells : cells + (1 + N) ≤ R.cells) (hslots : slots + (N + N * M) ≤ R.slots) :
    ∃ (vm₁ : Vm) (cA cB : ClassId), s.vm.findClass ("[" ++ (FieldType.array ty).toString) = some cA ∧ s.vm.findClass (FieldType.array ty).toString = some cB ∧
      Stand p l e R s m args below meth c (mnS (T.setVm vm₁) cA cB N M (defaultValue ty) N) locs (cells + (1 + N)) (slots + (N + N * M)) ∧
      ∀ target, Steps p.tables e below ((mnS (T.setVm vm₁) cA cB N M (defaultValue ty) N).setTop { g with pc := g.pc + 4, stack := .ref T.heap.size :: rest }) target → Steps p.tables e below (T.setTop g) target := by
  subst hg
  have hpl : e.platform.magicAccessors = ({} : Platform).magicAccessors := by rw [X.admits.platform]
  obtain ⟨cB, cA, kA, hfB, -, hkA, hA, hfA⟩ := arrayOverA_spec hover
  obtain ⟨cB', kB, cC, hfB', hkB, hB⟩ := Cond.arrayClass_spec harr
  have eB : cB' = cB := Option.some.inj (hfB'.symm.trans hfB)
  subst eB
  obtain ⟨cL, hfL, hcl⟩ := Cond.classLink_spec hown hclink e.platform hpl
  cases hfA.symm.trans hfL
  obtain ⟨hgv, hwarm, hready⟩ := State.classEntry (e := e) X.warmed hcl
  generalize T.vm.noted g.method.cls index (.cls cA) = vm₁ at hgv hwarm hready
  obtain ⟨kA₁, hkA₁, sA⟩ := hwarm.alike.2.2 _ _ hkA
  obtain ⟨kB₁, hkB₁, sB⟩ := hwarm.alike.2.2 _ _ hkB
  have X₁ := X.noted hwarm
  have X₂ := mn_stand X₁ cA cB' N M (defaultValue ty) N
  obtain ⟨r1, r2⟩ := X.roomAbove hcells hslots
  have l1 : ¬ N > e.platform.arrayLengthLimit := by rw [Launch.admits_arrayLengthLimit X.admits]; omega
  have l2 : ¬ M > e.platform.arrayLengthLimit := by rw [Launch.admits_arrayLengthLimit X.admits]; omega
  have b1 : ¬ N * componentBytes (.array ty) > e.platform.maxHeapBytes := by
    rw [Launch.admits_maxHeapBytes X.admits]
    show ¬ N * 4 > 536870912
    omega
  have b2 : ¬ M * componentBytes ty > e.platform.maxHeapBytes := by rw [Launch.admits_maxHeapBytes X.admits]; omega
  refine ⟨vm₁, cA, cB', hfA, hfB, by rw [show cells + (1 + N) = cells + 1 + N by omega, show slots + (N + N * M) = slots + N + N * M by omega]; exact X₂, fun target go => ?_⟩
  jvm_step X.here [hexec, hdg]
  simp only [multianewarray.sem, wp_bind', W.resolveClassAt_links (State.method?_setTop g X.here.top) hgv]
  rw [W.popN, if_neg (by decide)]
  refine ⟨g, State.topJava?_setTop' (s := T.setVm vm₁) g X.here.top, [.int n, .int k], rest, rfl, hstack, ?_⟩
  simp only [List.mapM_cons, List.mapM_nil, wp_bind', wp_pure']
  refine mn_two (u := ((T.setTop g).setVm vm₁).setTop { g with stack := rest }) (kA := kA₁) (kB := kB₁) (cB := cB') (cC := cC) (ty := ty) hN hM hkA₁ (by rw [sA]; exact hA) hkB₁ (by rw [sB]; exact hB) hn hk l1 b1 l2 b2 hdf hdd r1 r2 (fun d' acts' => ?_)
  have fr : ((T.setTop g).setVm vm₁).setTop { g with stack := rest } = (T.setVm vm₁).setTop { g with stack := rest } := by
    show ((T.setVm vm₁).setTop g).setTop _ = _
    rw [State.setTop_setTop]
  rw [fr, mnS_top]
  simp only [wp_bind', W.mark, W.pushRef, State.topJava?_setTop' _ X₂.here.top, Option.some.injEq, exists_eq_left', State.setTop_setTop, State.heap_setTop]
  intro acts
  simp [jvm, X₂.here.top]
  exact go
end MN4
