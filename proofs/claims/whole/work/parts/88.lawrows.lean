/-! THE CLAIM OUT OF ONE WALK OF THE LAW'S BODY. Your part is whole_start (and what it stands on); all else here is the same for every law, but numbers. -/
def R_law : String := "ThreeHundredLaw"
def lw_P (b : Addr) (xs : List Int32) (args : Array Value) (s : State) : Prop := args = #[.ref b] ∧ s.IntsAt b xs ∧ xs.length ≤ 384 ∧ (Jvm.Cond.and given_1 narrow_1).before args s = true
def lw_Q (_ : Array Value) (s : State) (o : Outcome) (t : State) : Prop := o = .returned (some (.int 1)) ∧ Framed s o t [] 600000 7302250
def lw_Z (below : List Frame) (a : Array Value) (s : State) : State → Prop := fun t => ∃ o, t.status = .running ∧ Ended t below o ∧ lw_Q a s o t
/-- the law's own end, with 1 on the stack, nothing written that was there before, its room as the claim has it -/
theorem lw_ret {p : Program} {l : Launch} {e : Env} {s : State} {m : MethodId} {below : List Frame} {meth : Method} {c : Code} {b : Nat} (hx : p.tables.exec = Jvm.exec) (hb : c.code = code) (hr : meth.sig.returnType = ret) (hlocks : meth.locks = false) {pc : Nat} {H : Heap} {ls : Array Slot} (hdg : decode code pc = .ok (.ireturn, 1)) : W p l e room_1 s m #[Value.ref b] below meth c H [] 600000 7302250 (lw_Z below #[Value.ref b] s) (F0 m pc ls [.int 1]) := by
  intro T hT X
  obtain ⟨fs, hret, hrun, hended, hW, hframe⟩ := X.leave (v := some (.int 1)) (hlocks := hlocks) (fun h => by rw [hr] at h; cases h)
  have hmeth' : T.vm.method? m = some meth := X.method'
  refine ⟨T.setFrames fs, ?_, .returned (some (.int 1)), hrun, hended, rfl, ⟨_, rfl⟩, hW, hframe⟩
  jvm_step X.here [X.here.top, hx, hb, hdg, hmeth', hr, ret, narrow_b1]
  (try refine ⟨rfl, ?_⟩); (try refine ⟨rfl, ?_⟩)
  first | (intro acts; rw [hret _ acts rfl rfl rfl]) | rw [hret _ _ rfl rfl rfl]
  exact Steps.refl _
/-- what holds at the law's entry: the machine, the code, the tables' words (any of lw_tbl by 'hts w (by decide +kernel)'), the script of L ints xs at the cell b, what the Statement gives of the start (any of its parts by flat_of_before) -/
def lw_At (p : Program) (s : State) (m : MethodId) (meth : Method) (c : Code) (b L : Nat) (xs : Nat → Int32) : Prop :=
  p.tables.exec = Jvm.exec ∧ c.code = code ∧ meth.sig.returnType = ret ∧ c.maxLocals = 4 ∧ s.vm.findClass R_law = some m.cls ∧ (∀ w ∈ lw_tbl, w.before #[Value.ref b] s = true) ∧ va_X b L xs s s.heap ∧ b < s.heap.size ∧ meth.locks = false ∧ (Jvm.Cond.and given_1 narrow_1).before #[Value.ref b] s = true

/-! the law's own frame; the script is the cell 2000 -/
abbrev XL (K : KT) (L : Nat) (xs : Nat → Int32) : XT := (fun s q => s.heap.size ≤ q, fun below args s => lw_Z below #[Value.ref (K.2.2.1 2000)] s, fun s args R => R = room_1 ∧ args = #[Value.ref (K.2.2.1 2000)] ∧ va_X (K.2.2.1 2000) L xs s s.heap ∧ K.2.2.1 2000 < s.heap.size, 600000, 7302250)
abbrev LL (i : Nat) : List (Option AV) := [some (vR 2000), some (vR 0), some (vR 57), some (vI (i : Int))]
abbrev LWK (K : KT) (L : Nat) (xs : Nat → Int32) (pc i : Nat) (st : List AV) (h : Hp) : Prop := AW K (XL K L xs) RL code 4 ret 1000 pc (LL i) st h
section AWL
variable {K : KT} {X : XT} {own : String} {cc : ByteArray} {nL : Nat} {rt : Option FieldType} {dep pc pc' : Nat} {ls : List (Option AV)} {st : List AV} {h : Hp} {L : Nat} {xs : Nat → Int32}
theorem AW.slen (hd : decode cc pc = .ok (.arraylength, 1)) (kk : AW K (XL K L xs) own cc nL rt dep pc' ls (vI (L : Int) :: st) h) (hp : pc + 1 = pc' := by rfl) : AW K (XL K L xs) own cc nL rt dep pc ls (vR 2000 :: st) h := by
  subst hp
  intro p e R s m args below meth c H locs lsA C Wx q
  obtain ⟨hx, hb, hr, hml, hown, hts, hlk, g1, g2, g3, g4, hD, hA, hK, hS, hR, ha, hX, hbl⟩ := id C
  have w := kk p e R s m args below meth c H locs lsA C Wx q
  simp only [List.map, cv] at w ⊢
  rw [show Int32.ofInt (L : Int) = Int32.ofNat L from rfl] at w
  exact va_slen hx hb hX hbl (fun z => absurd hbl (Nat.not_lt.mpr z)) Wx.2.1 hd w
theorem AW.sld {n : Nat} {i : Int} (hd : decode cc pc = .ok (.iaload, 1)) (hi : i = (n : Int)) (hn : n < L) (hL : L ≤ 384) (kk : AW K (XL K L xs) own cc nL rt dep pc' ls (vI (xs n).toInt :: st) h) (hp : pc + 1 = pc' := by rfl) : AW K (XL K L xs) own cc nL rt dep pc ls (vI i :: vR 2000 :: st) h := by
  subst hp
  subst hi
  intro p e R s m args below meth c H locs lsA C Wx q
  obtain ⟨hx, hb, hr, hml, hown, hts, hlk, g1, g2, g3, g4, hD, hA, hK, hS, hR, ha, hX, hbl⟩ := id C
  have w := kk p e R s m args below meth c H locs lsA C Wx q
  obtain ⟨v1, v2⟩ := vin (i := (n : Int)) (n := L) (by omega) (by omega) (by omega)
  simp only [List.map, cv] at w ⊢
  refine va_sld hx hb hX hbl (fun z => absurd hbl (Nat.not_lt.mpr z)) Wx.2.1 v1 hd ?_
  rw [v2, Int.toNat_natCast]
  rw [Int32.ofInt_toInt] at w
  exact w
theorem AW.icmpS {v : Int} {off : Int} {tgt : Nat} (hd : decode cc pc = .ok (.if_icmp .eq off, 3)) (kt : AW K X own cc nL rt dep tgt ls st h) (ht : (pc : Int) + off = (tgt : Int) := by decide) : AW K X own cc nL rt dep pc ls (vI v :: vI v :: st) h := by
  intro p e R s m args below meth c H locs lsA C Wx q
  simp only [List.map, cv]
  exact lv_icmp_eq C.1 C.2.1 hd ht (fun _ => kt p e R s m args below meth c H locs lsA C Wx q) (fun z => absurd rfl z)
theorem lg_cmpS (x : Int64) : lg_cmp x x = Int32.ofInt 0 := by
  unfold lg_cmp
  simp
theorem AW.lcmpS {v : Int} (hd : decode cc pc = .ok (.lcmp, 1)) (k : AW K X own cc nL rt dep pc' ls (vI 0 :: st) h) (hp : pc + 1 = pc' := by rfl) : AW K X own cc nL rt dep pc ls (vL v :: vL v :: st) h := by
  subst hp
  intro p e R s m args below meth c H locs lsA C Wx q
  have w := k p e R s m args below meth c H locs lsA C Wx q
  simp only [List.map, cv] at w ⊢
  rw [← lg_cmpS (Int64.ofInt v)] at w
  exact W.lcmp C.1 C.2.1 hd w
theorem AW.lshl {a b : Int} (hd : decode cc pc = .ok (.lshl, 1)) (k : AW K X own cc nL rt dep pc' ls (vL (Int64.ofInt a <<< ((Int32.ofInt b).toInt64 &&& 63)).toInt :: st) h) (hp : pc + 1 = pc' := by rfl) : AW K X own cc nL rt dep pc ls (vI b :: vL a :: st) h := by
  subst hp
  intro p e R s m args below meth c H locs lsA C Wx q
  have w := k p e R s m args below meth c H locs lsA C Wx q
  simp only [List.map, cv] at w ⊢
  rw [Int64.ofInt_toInt] at w
  exact lv_lshl C.1 C.2.1 hd rfl w
theorem AW.land {a b : Int} (hd : decode cc pc = .ok (.land, 1)) (k : AW K X own cc nL rt dep pc' ls (vL (Int64.ofInt a &&& Int64.ofInt b).toInt :: st) h) (hp : pc + 1 = pc' := by rfl) : AW K X own cc nL rt dep pc ls (vL b :: vL a :: st) h := by
  subst hp
  intro p e R s m args below meth c H locs lsA C Wx q
  have w := k p e R s m args below meth c H locs lsA C Wx q
  simp only [List.map, cv] at w ⊢
  rw [Int64.ofInt_toInt] at w
  exact lv_land C.1 C.2.1 hd w
theorem AW.lor {a b : Int} (hd : decode cc pc = .ok (.lor, 1)) (k : AW K X own cc nL rt dep pc' ls (vL (Int64.ofInt a ||| Int64.ofInt b).toInt :: st) h) (hp : pc + 1 = pc' := by rfl) : AW K X own cc nL rt dep pc ls (vL b :: vL a :: st) h := by
  subst hp
  intro p e R s m args below meth c H locs lsA C Wx q
  have w := k p e R s m args below meth c H locs lsA C Wx q
  simp only [List.map, cv] at w ⊢
  rw [Int64.ofInt_toInt] at w
  exact lv_lor C.1 C.2.1 hd w
theorem in64 (x : Int64) : inL x.toInt := ⟨Int64.le_toInt x, by have := Int64.toInt_lt x; omega⟩
/-- the law's end -/
theorem AW.lend (hd : decode code pc = .ok (.ireturn, 1)) : AW K (XL K L xs) own code nL ret dep pc ls [vI 1] h := by
  intro p e R s m args below meth c H locs lsA C Wx q
  obtain ⟨hx, hb, hr, hml, hown, hts, hlk, g1, g2, g3, g4, hD, hA, hK, hS, hR, ha, hX, hbl⟩ := id C
  subst hR
  subst ha
  simp only [List.map, cv]
  rw [show Int32.ofInt 1 = 1 from rfl]
  exact va_forget (fun q' hq => Wx.2.1.2.2 q' hq) (lw_ret hx hb hr hlk hd)
/-- an argument out of the script -/
theorem AW.sarg {i : Nat} (a : Nat) (d1 : decode code pc = .ok (.aload_n 0, 1)) (d2 : decode code (pc + 1) = .ok (.iload_n 3, 1)) (d3 : decode code (pc + 2) = .ok (.iconst (a : Int), 1)) (d4 : decode code (pc + 3) = .ok (.iadd, 1)) (d5 : decode code (pc + 4) = .ok (.iaload, 1)) (hi : i + 6 ≤ L) (hL : L ≤ 384) (k : LWK K L xs pc' i (vI (xs (i + a)).toInt :: st) h) (ha : a ≤ 5 := by decide) (hp : pc + 5 = pc' := by rfl) : LWK K L xs pc i st h := by
  subst hp
  refine AW.aload_n d1 rfl ?_
  refine AW.iload_n d2 rfl ?_
  refine AW.iconst d3 ?_
  refine AW.iadd d4 ?_
  exact AW.sld (n := i + a) d5 (by omega) (by omega) hL k
end AWL
