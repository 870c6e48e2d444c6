/-! LAYER 1: an abstract heap of whole numbers, and a judgement AW over it with one rule for each kind of instruction.
A value is an int, a long (both as whole numbers; an int stands for its class mod 2^32), a cell by its number, or null. -/
abbrev AV : Type := Int ⊕ (Int ⊕ Option Nat)
abbrev vI (v : Int) : AV := Sum.inl v
abbrev vL (v : Int) : AV := Sum.inr (Sum.inl v)
abbrev vR (k : Nat) : AV := Sum.inr (Sum.inr (some k))
abbrev vN : AV := Sum.inr (Sum.inr none)
def cv (ad : Nat → Nat) : AV → Value
  | Sum.inl v => .int (Int32.ofInt v)
  | Sum.inr (Sum.inl v) => .long (Int64.ofInt v)
  | Sum.inr (Sum.inr (some k)) => .ref (ad k)
  | Sum.inr (Sum.inr none) => .null
def lcv (ad : Nat → Nat) : Nat → List (Option AV) → List (Nat × Value)
  | _, [] => []
  | i, none :: r => lcv ad (i + 1) r
  | i, some v :: r => (i, cv ad v) :: lcv ad (i + 1) r
theorem lcv_mem {ad : Nat → Nat} : ∀ (ls : List (Option AV)) (i n : Nat) (v : AV), ls[n]? = some (some v) → (i + n, cv ad v) ∈ lcv ad i ls
  | [], i, n, v, h => by simp at h
  | none :: r, i, 0, v, h => by simp at h
  | none :: r, i, n + 1, v, h => by
    have q := lcv_mem (ad := ad) r (i + 1) n v (by simpa using h)
    rw [show i + (n + 1) = i + 1 + n by omega]
    exact q
  | some w :: r, i, 0, v, h => by
    have h : w = v := by simpa using h
    subst h
    exact List.mem_cons_self
  | some w :: r, i, n + 1, v, h => by
    have q := lcv_mem (ad := ad) r (i + 1) n v (by simpa using h)
    rw [show i + (n + 1) = i + 1 + n by omega]
    exact List.mem_cons_of_mem _ q
theorem lcv_of {ad : Nat → Nat} : ∀ (ls : List (Option AV)) (i : Nat) (q : Nat × Value), q ∈ lcv ad i ls → ∃ (n : Nat) (v : AV), q = (i + n, cv ad v) ∧ ls[n]? = some (some v)
  | [], i, q, h => by simp [lcv] at h
  | none :: r, i, q, h => by
    obtain ⟨n, v, h1, h2⟩ := lcv_of r (i + 1) q h
    exact ⟨n + 1, v, by rw [h1, show i + (n + 1) = i + 1 + n by omega], by simpa using h2⟩
  | some w :: r, i, q, h => by
    rcases List.mem_cons.mp h with h | h
    · exact ⟨0, w, h, by simp⟩
    · obtain ⟨n, v, h1, h2⟩ := lcv_of r (i + 1) q h
      exact ⟨n + 1, v, by rw [h1, show i + (n + 1) = i + 1 + n by omega], by simpa using h2⟩
abbrev Hp : Type := Nat → Nat → Int
def hset (h : Hp) (k j : Nat) (v : Int) : Hp := fun a b => if a = k ∧ b = j then v else h a b
theorem hset_same (h : Hp) (k j : Nat) (v : Int) : hset h k j v k j = v := by simp [hset]
theorem hset_cell {h : Hp} {k j a b : Nat} {v : Int} (n : a ≠ k) : hset h k j v a b = h a b := by simp [hset, n]
theorem hset_slot {h : Hp} {k j a b : Nat} {v : Int} (n : b ≠ j) : hset h k j v a b = h a b := by simp [hset, n]
abbrev inI (v : Int) : Prop := -2147483648 ≤ v ∧ v ≤ 2147483647
abbrev inL (v : Int) : Prop := -9223372036854775808 ≤ v ∧ v ≤ 9223372036854775807
abbrev inB (v : Int) : Prop := -128 ≤ v ∧ v ≤ 127
abbrev LK : Type := Nat × Nat × List Nat

/-- the cells: (0, class, slots: 0 an int, 1 a long, 2 a cell that may change, k + 3 the cell k for good), (1, n, -) ints, (2, n, -) bytes, (3, n, -) longs, (4, n, cells) rows of bytes, (5, n, cells) rows of longs -/
def LY : List LK := [(0, 11, [4, 9, 13, 15, 24, 29, 38, 43, 46, 49, 0]), (0, 6, [5, 6, 7, 8, 0]), (1, 20, []), (1, 20, []), (1, 20, []), (1, 20, []), (0, 9, [10, 11, 12, 0]), (1, 6, []), (1, 6, []), (1, 6, []), (0, 4, [14, 0]), (1, 5, []), (0, 7, [9, 13, 16, 17, 18, 19, 20, 21, 22, 23, 0]), (1, 120, []), (1, 120, []), (1, 120, []), (1, 120, []), (1, 120, []), (1, 120, []), (1, 120, []), (1, 120, []), (0, 3, [15, 9, 25, 26, 27, 28, 0, 0]), (1, 40, []), (1, 40, []), (1, 40, []), (1, 40, []), (0, 5, [30, 31, 32, 37, 0, 0, 2, 0, 0, 0]), (1, 9, []), (2, 120, []), (4, 4, [30, 31, 32, 33]), (2, 120, []), (2, 120, []), (2, 120, []), (2, 120, []), (1, 4, []), (0, 2, [15, 42, 39, 40, 41]), (3, 4, []), (1, 4, []), (1, 12, []), (0, 10, [1, 1, 0, 0]), (0, 1, [44, 45, 0]), (1, 6, []), (1, 6, []), (0, 0, [47, 48, 0, 0]), (1, 50, []), (1, 24, []), (0, 8, [50, 51, 52, 53]), (1, 6, []), (1, 6, []), (1, 6, []), (5, 6, [51, 52, 53, 54, 55, 56]), (3, 60, []), (3, 60, []), (3, 60, []), (3, 60, []), (3, 60, []), (3, 60, []), (0, 12, [61, 62, 63, 64, 65, 66, 67, 68, 69, 70, 71, 72, 73, 0, 0, 0, 0, 0, 74, 75, 76, 77, 0, 0, 78, 79, 80, 81, 82, 0, 0, 0, 0, 0, 0, 0, 0, 83, 0, 0, 0, 0, 0, 0, 0, 0, 84, 85, 86, 0, 87, 88, 0, 0, 89, 90, 91, 92, 93]), (1, 20, []), (1, 20, []), (1, 20, []), (1, 20, []), (1, 6, []), (1, 6, []), (1, 6, []), (1, 5, []), (1, 120, []), (1, 120, []), (1, 120, []), (1, 120, []), (1, 120, []), (1, 40, []), (1, 40, []), (1, 40, []), (1, 40, []), (1, 120, []), (1, 1000, []), (1, 5, []), (1, 130, []), (1, 130, []), (1, 130, []), (1, 120, []), (1, 6, []), (1, 6, []), (1, 50, []), (1, 24, []), (1, 6, []), (1, 6, []), (1, 6, []), (3, 360, []), (3, 60, [])]
theorem ly_0 : LY[0]? = some (0, 11, [4, 9, 13, 15, 24, 29, 38, 43, 46, 49, 0]) := rfl
theorem ly_1 : LY[1]? = some (0, 6, [5, 6, 7, 8, 0]) := rfl
theorem ly_2 : LY[2]? = some (1, 20, []) := rfl
theorem ly_3 : LY[3]? = some (1, 20, []) := rfl
theorem ly_4 : LY[4]? = some (1, 20, []) := rfl
theorem ly_5 : LY[5]? = some (1, 20, []) := rfl
theorem ly_6 : LY[6]? = some (0, 9, [10, 11, 12, 0]) := rfl
theorem ly_7 : LY[7]? = some (1, 6, []) := rfl
theorem ly_8 : LY[8]? = some (1, 6, []) := rfl
theorem ly_9 : LY[9]? = some (1, 6, []) := rfl
theorem ly_10 : LY[10]? = some (0, 4, [14, 0]) := rfl
theorem ly_11 : LY[11]? = some (1, 5, []) := rfl
theorem ly_12 : LY[12]? = some (0, 7, [9, 13, 16, 17, 18, 19, 20, 21, 22, 23, 0]) := rfl
theorem ly_13 : LY[13]? = some (1, 120, []) := rfl
theorem ly_14 : LY[14]? = some (1, 120, []) := rfl
theorem ly_15 : LY[15]? = some (1, 120, []) := rfl
theorem ly_16 : LY[16]? = some (1, 120, []) := rfl
theorem ly_17 : LY[17]? = some (1, 120, []) := rfl
theorem ly_18 : LY[18]? = some (1, 120, []) := rfl
theorem ly_19 : LY[19]? = some (1, 120, []) := rfl
theorem ly_20 : LY[20]? = some (1, 120, []) := rfl
theorem ly_21 : LY[21]? = some (0, 3, [15, 9, 25, 26, 27, 28, 0, 0]) := rfl
theorem ly_22 : LY[22]? = some (1, 40, []) := rfl
theorem ly_23 : LY[23]? = some (1, 40, []) := rfl
theorem ly_24 : LY[24]? = some (1, 40, []) := rfl
theorem ly_25 : LY[25]? = some (1, 40, []) := rfl
theorem ly_26 : LY[26]? = some (0, 5, [30, 31, 32, 37, 0, 0, 2, 0, 0, 0]) := rfl
theorem ly_27 : LY[27]? = some (1, 9, []) := rfl
theorem ly_28 : LY[28]? = some (2, 120, []) := rfl
theorem ly_29 : LY[29]? = some (4, 4, [30, 31, 32, 33]) := rfl
theorem ly_30 : LY[30]? = some (2, 120, []) := rfl
theorem ly_31 : LY[31]? = some (2, 120, []) := rfl
theorem ly_32 : LY[32]? = some (2, 120, []) := rfl
theorem ly_33 : LY[33]? = some (2, 120, []) := rfl
theorem ly_34 : LY[34]? = some (1, 4, []) := rfl
theorem ly_35 : LY[35]? = some (0, 2, [15, 42, 39, 40, 41]) := rfl
theorem ly_36 : LY[36]? = some (3, 4, []) := rfl
theorem ly_37 : LY[37]? = some (1, 4, []) := rfl
theorem ly_38 : LY[38]? = some (1, 12, []) := rfl
theorem ly_39 : LY[39]? = some (0, 10, [1, 1, 0, 0]) := rfl
theorem ly_40 : LY[40]? = some (0, 1, [44, 45, 0]) := rfl
theorem ly_41 : LY[41]? = some (1, 6, []) := rfl
theorem ly_42 : LY[42]? = some (1, 6, []) := rfl
theorem ly_43 : LY[43]? = some (0, 0, [47, 48, 0, 0]) := rfl
theorem ly_44 : LY[44]? = some (1, 50, []) := rfl
theorem ly_45 : LY[45]? = some (1, 24, []) := rfl
theorem ly_46 : LY[46]? = some (0, 8, [50, 51, 52, 53]) := rfl
theorem ly_47 : LY[47]? = some (1, 6, []) := rfl
theorem ly_48 : LY[48]? = some (1, 6, []) := rfl
theorem ly_49 : LY[49]? = some (1, 6, []) := rfl
theorem ly_50 : LY[50]? = some (5, 6, [51, 52, 53, 54, 55, 56]) := rfl
theorem ly_51 : LY[51]? = some (3, 60, []) := rfl
theorem ly_52 : LY[52]? = some (3, 60, []) := rfl
theorem ly_53 : LY[53]? = some (3, 60, []) := rfl
theorem ly_54 : LY[54]? = some (3, 60, []) := rfl
theorem ly_55 : LY[55]? = some (3, 60, []) := rfl
theorem ly_56 : LY[56]? = some (3, 60, []) := rfl
theorem ly_57 : LY[57]? = some (0, 12, [61, 62, 63, 64, 65, 66, 67, 68, 69, 70, 71, 72, 73, 0, 0, 0, 0, 0, 74, 75, 76, 77, 0, 0, 78, 79, 80, 81, 82, 0, 0, 0, 0, 0, 0, 0, 0, 83, 0, 0, 0, 0, 0, 0, 0, 0, 84, 85, 86, 0, 87, 88, 0, 0, 89, 90, 91, 92, 93]) := rfl
theorem ly_58 : LY[58]? = some (1, 20, []) := rfl
theorem ly_59 : LY[59]? = some (1, 20, []) := rfl
theorem ly_60 : LY[60]? = some (1, 20, []) := rfl
theorem ly_61 : LY[61]? = some (1, 20, []) := rfl
theorem ly_62 : LY[62]? = some (1, 6, []) := rfl
theorem ly_63 : LY[63]? = some (1, 6, []) := rfl
theorem ly_64 : LY[64]? = some (1, 6, []) := rfl
theorem ly_65 : LY[65]? = some (1, 5, []) := rfl
theorem ly_66 : LY[66]? = some (1, 120, []) := rfl
theorem ly_67 : LY[67]? = some (1, 120, []) := rfl
theorem ly_68 : LY[68]? = some (1, 120, []) := rfl
theorem ly_69 : LY[69]? = some (1, 120, []) := rfl
theorem ly_70 : LY[70]? = some (1, 120, []) := rfl
theorem ly_71 : LY[71]? = some (1, 40, []) := rfl
theorem ly_72 : LY[72]? = some (1, 40, []) := rfl
theorem ly_73 : LY[73]? = some (1, 40, []) := rfl
theorem ly_74 : LY[74]? = some (1, 40, []) := rfl
theorem ly_75 : LY[75]? = some (1, 120, []) := rfl
theorem ly_76 : LY[76]? = some (1, 1000, []) := rfl
theorem ly_77 : LY[77]? = some (1, 5, []) := rfl
theorem ly_78 : LY[78]? = some (1, 130, []) := rfl
theorem ly_79 : LY[79]? = some (1, 130, []) := rfl
theorem ly_80 : LY[80]? = some (1, 130, []) := rfl
theorem ly_81 : LY[81]? = some (1, 120, []) := rfl
theorem ly_82 : LY[82]? = some (1, 6, []) := rfl
theorem ly_83 : LY[83]? = some (1, 6, []) := rfl
theorem ly_84 : LY[84]? = some (1, 50, []) := rfl
theorem ly_85 : LY[85]? = some (1, 24, []) := rfl
theorem ly_86 : LY[86]? = some (1, 6, []) := rfl
theorem ly_87 : LY[87]? = some (1, 6, []) := rfl
theorem ly_88 : LY[88]? = some (1, 6, []) := rfl
theorem ly_89 : LY[89]? = some (3, 360, []) := rfl
theorem ly_90 : LY[90]? = some (3, 60, []) := rfl
abbrev NC : Nat := 91
theorem LY_len : LY.length = NC := rfl
def sv (ad : Nat → Nat) : Nat → Int → Value
  | 0, v => .int (Int32.ofInt v)
  | 1, v => .long (Int64.ofInt v)
  | 2, v => .ref (ad v.toNat)
  | k + 3, _ => .ref (ad k)
def mkE (ad : Nat → Nat) (cA : Nat → ClassId) (row : Nat → Int) : LK → va_E
  | (0, ci, sl) => .inr (ci, sl.mapIdx (fun j sk => sv ad sk (row j)))
  | (1, n, _) => .inl (cA 0, n, .inl (fun j => Int32.ofInt (row j)))
  | (2, n, _) => .inl (cA 1, n, .inl (fun j => Int32.ofInt (row j)))
  | (3, n, _) => .inl (cA 2, n, .inr (.inl (fun j => Int64.ofInt (row j))))
  | (4, n, tg) => .inl (cA 3, n, .inr (.inr (.inr (.inr (fun j => some (ad (tg.getD j 0)))))))
  | (_, n, tg) => .inl (cA 4, n, .inr (.inr (.inr (.inr (fun j => some (ad (tg.getD j 0)))))))
def okr : LK → Nat → Int → Prop
  | (0, _, sl), j, v => match sl[j]? with
    | some 0 => inI v
    | some 1 => inL v
    | _ => True
  | (1, _, _), _, v => inI v
  | (2, _, _), _, v => inB v
  | (3, _, _), _, v => inL v
  | _, _, _ => True
/-- every number lies within its slot's range -/
def HOK (h : Hp) : Prop := ∀ (k : Nat) (kd : LK), LY[k]? = some kd → ∀ j : Nat, okr kd j (h k j)
theorem HOK.set {h : Hp} (H : HOK h) {k j : Nat} {v : Int} {kd : LK} (hk : LY[k]? = some kd) (hv : okr kd j v) : HOK (hset h k j v) := by
  intro a ka ha b
  by_cases e : a = k ∧ b = j
  · obtain ⟨rfl, rfl⟩ := e
    rw [hset_same]
    rw [hk] at ha
    cases ha
    exact hv
  · rw [show hset h k j v a b = h a b by simp [hset, e]]
    exact H a ka ha b
theorem HOK.int {h : Hp} (H : HOK h) {k ci j : Nat} {sl : List Nat} (hk : LY[k]? = some (0, ci, sl)) (hs : sl[j]? = some 0) : inI (h k j) := by
  have q := H k _ hk j
  simp only [okr, hs] at q
  exact q
theorem HOK.long {h : Hp} (H : HOK h) {k ci j : Nat} {sl : List Nat} (hk : LY[k]? = some (0, ci, sl)) (hs : sl[j]? = some 1) : inL (h k j) := by
  have q := H k _ hk j
  simp only [okr, hs] at q
  exact q
theorem HOK.ints {h : Hp} (H : HOK h) {k n : Nat} {tl : List Nat} (hk : LY[k]? = some (1, n, tl)) (j : Nat) : inI (h k j) := H k _ hk j
theorem HOK.bytes {h : Hp} (H : HOK h) {k n : Nat} {tl : List Nat} (hk : LY[k]? = some (2, n, tl)) (j : Nat) : inB (h k j) := H k _ hk j
theorem HOK.longs {h : Hp} (H : HOK h) {k n : Nat} {tl : List Nat} (hk : LY[k]? = some (3, n, tl)) (j : Nat) : inL (h k j) := H k _ hk j
/-- launch, classes, the cells' addresses, the array classes -/
abbrev KT : Type := Launch × va_G × (Nat → Nat) × (Nat → ClassId)
abbrev tysOf (cA : Nat → ClassId) : List (ClassId × FieldType) := [(cA 0, .int), (cA 1, .byte), (cA 2, .long), (cA 3, .array .byte), (cA 4, .array .long)]
def wld (K : KT) (h : Hp) : va_W := (List.range NC).map (fun k => (K.2.2.1 k, mkE K.2.2.1 K.2.2.2 (h k) (LY.getD k (9, 0, []))))
def AA (K : KT) : Nat → Prop := fun q => ∃ k, k < NC ∧ K.2.2.1 k = q
def DK (K : KT) : Prop := ∀ i j, i < NC → j < NC → K.2.2.1 i = K.2.2.1 j → i = j
theorem wld_at {K : KT} {h : Hp} {k : Nat} {kd : LK} (hk : LY[k]? = some kd) : (wld K h)[k]? = some (K.2.2.1 k, mkE K.2.2.1 K.2.2.2 (h k) kd) := by
  have hl : k < NC := by
    have := (List.getElem?_eq_some_iff.mp hk).1
    rwa [LY_len] at this
  unfold wld
  rw [List.getElem?_map, List.getElem?_range hl]
  simp only [Option.map_some]
  rw [List.getD_eq_getElem?_getD, hk]
  rfl
theorem wld_lt {K : KT} {h : Hp} {k : Nat} {q : Nat × va_E} (hq : (wld K h)[k]? = some q) : k < NC ∧ q.1 = K.2.2.1 k := by
  have hl : k < (wld K h).length := (List.getElem?_eq_some_iff.mp hq).1
  have hl2 : k < NC := by simpa [wld] using hl
  refine ⟨hl2, ?_⟩
  unfold wld at hq
  rw [List.getElem?_map, List.getElem?_range hl2] at hq
  simp only [Option.map_some] at hq
  cases hq
  rfl
theorem wld_D {K : KT} (hD : DK K) (A : Nat → Prop) (hA : ∀ q, AA K q → A q) (h : Hp) : va_D A (wld K h) := by
  refine ⟨fun i j p q hi hj hpq => ?_, fun k q hk => ?_⟩
  · obtain ⟨h1, h2⟩ := wld_lt hi
    obtain ⟨h3, h4⟩ := wld_lt hj
    exact hD i j h1 h3 (by rw [← h2, ← h4, hpq])
  · obtain ⟨h1, h2⟩ := wld_lt hk
    exact hA _ ⟨k, h1, h2.symm⟩
theorem wld_set {K : KT} {h h' : Hp} {k : Nat} {e : va_E} {kd : LK} (hk : LY[k]? = some kd) (he : e = mkE K.2.2.1 K.2.2.2 (h' k) kd) (ho : ∀ a, a ≠ k → h' a = h a) : (wld K h).set k (K.2.2.1 k, e) = wld K h' := by
  apply List.ext_getElem?
  intro i
  by_cases hi : i = k
  · subst hi
    have hl : i < (wld K h).length := (List.getElem?_eq_some_iff.mp (wld_at (K := K) (h := h) hk)).1
    rw [List.getElem?_set_self hl, wld_at hk, he]
  · rw [List.getElem?_set_ne (Ne.symm hi)]
    unfold wld
    rw [List.getElem?_map, List.getElem?_map]
    by_cases hl : i < NC
    · rw [List.getElem?_range hl]
      simp only [Option.map_some]
      rw [ho i hi]
    · rw [List.getElem?_eq_none (by simpa using hl)]
      rfl
theorem hset_other {h : Hp} {k j : Nat} {v : Int} : ∀ a, a ≠ k → hset h k j v a = h a := fun a ha => funext fun b => hset_cell ha
theorem mkE_slot {ad : Nat → Nat} {cA : Nat → ClassId} {h : Hp} {k j ci : Nat} {v : Int} {sl : List Nat} {sk : Nat} (hs : sl[j]? = some sk) {w : Value} (hw : w = sv ad sk v) : (Sum.inr (ci, (sl.mapIdx (fun j sk => sv ad sk (h k j))).set j w) : va_E) = mkE ad cA (hset h k j v k) (0, ci, sl) := by
  unfold mkE
  congr 2
  apply List.ext_getElem?
  intro i
  rw [List.getElem?_mapIdx]
  by_cases hi : i = j
  · subst hi
    have hl : i < (sl.mapIdx (fun j sk => sv ad sk (h k j))).length := by
      have := (List.getElem?_eq_some_iff.mp hs).1
      simpa using this
    rw [List.getElem?_set_self hl, hs, hw]
    simp [hset_same]
  · rw [List.getElem?_set_ne (Ne.symm hi), List.getElem?_mapIdx]
    cases sl[i]? with
    | none => rfl
    | some z => simp [hset_slot hi]
/-- the statics of the class, the text of names: read, never written -/
def tAbove : List Int := [-1, 0, 0, 1, 0, 2, 0, 4]
def tOwn : List Int := [1, 10, 11, 2, 20, 0, 0, 0, 0, 30, 0, 0, 41, 0, 40, 0, 0, 0, 50, 0, 0, 0, 0, 60, 70, 0, 0, 0, 0, 80, 0, 81]
def tNames : List Int32 := [102, 116, 115, 121, 112, 110, 103, 107, 122]
/-- the calls of private methods across nest mates -/
def nestW : List (String × Nat × MethodName) := [(RX1, 26, yX11_cut), (RX2, 51, yX11_cut), (RX2, 77, yX11_less), (RX7, 75, yX11_cut), (RX10, 32, yX11_cut)]
def ST (K : KT) (A : Nat → Prop) (s : State) : Prop :=
  va_Z RX0 "ABOVE" "[I" (.ref (K.2.2.1 1000)) A s s.heap ∧ va_T .int (K.2.2.1 1000) 8 (fun j => .int (Int32.ofInt (tAbove.getD j 0))) A s s.heap ∧
  va_Z RX0 "OWN" "[I" (.ref (K.2.2.1 1001)) A s s.heap ∧ va_T .int (K.2.2.1 1001) 32 (fun j => .int (Int32.ofInt (tOwn.getD j 0))) A s s.heap ∧
  vk_R RX5 92 "ftsypngkz" (K.2.2.1 1002) s ∧ vk_S 1 [9] [tNames] (fun _ => K.2.2.1 1002) (fun _ => K.2.2.1 1003) A s s.heap ∧
  va_Z "java/lang/String" "COMPACT_STRINGS" "Z" (.int 1) A s s.heap ∧ (∀ q ∈ nestW, va_Nw (.methodLinkNest q.1 q.2.1 q.2.2 "ThreeHundred") s)
theorem ST.warm {K : KT} {A B : Nat → Prop} {s U : State} (hW : s.WarmedH U.vm) (hH : ∀ q : Nat, q < s.heap.size → ¬ A q → U.heap[q]? = s.heap[q]?) (hAB : ∀ q, B q → A q) (h : ST K A s) : ST K B U := by
  obtain ⟨h1, h2, h3, h4, h5, h6, h7, h8⟩ := h
  have hv := hW.alike
  exact ⟨((va_Z.moved hv h1).kept hH).narrow hAB, ((va_T.moved hv h2).kept hH).narrow hAB, ((va_Z.moved hv h3).kept hH).narrow hAB, ((va_T.moved hv h4).kept hH).narrow hAB, h5.warm hW, ((vk_S.moved hv h6).kept hH).narrow hAB, ((va_Z.moved hv h7).kept hH).narrow hAB, fun q hq => (h8 q hq).warmM hW⟩
theorem ST.calling {K : KT} {A : Nat → Prop} {U : State} (g : JFrame) (mk : MethodId) (a : Array Value) (h : ST K A U) : ST K A (U.calling g mk a) := by
  obtain ⟨h1, h2, h3, h4, h5, h6, h7, h8⟩ := h
  have hv : U.vm.Alike (U.calling g mk a).vm := Vm.Alike.refl U.vm
  exact ⟨va_Z.moved hv h1, va_T.moved hv h2, va_Z.moved hv h3, va_T.moved hv h4, vk_R.same (u := U) rfl h5, vk_S.moved hv h6, va_Z.moved hv h7, fun q hq => va_Nw.same rfl (rfl : U.vm = (U.calling g mk a).vm) (h8 q hq)⟩
/-- how a body ends: the cells that may change, the end, what else holds at the start, the room taken -/
abbrev XT : Type := (State → Nat → Prop) × (List Frame → Array Value → State → State → Prop) × (State → Array Value → Room → Prop) × Nat × Nat
def CX (K : KT) (X : XT) (own : String) (cc : ByteArray) (nL : Nat) (ret : Option FieldType) (dep : Nat) (p : Program) (R : Room) (s : State) (m : MethodId) (args : Array Value) (meth : Method) (c : Code) : Prop :=
  p.tables.exec = Jvm.exec ∧ c.code = cc ∧ meth.sig.returnType = ret ∧ c.maxLocals = nL ∧ s.vm.findClass own = some m.cls ∧ (∀ w ∈ wsL_law, w.before args s = true) ∧ meth.locks = false ∧ dep ≤ R.frames ∧ 64 * dep ≤ R.locals ∧ X.2.2.2.1 ≤ R.cells ∧ X.2.2.2.2 ≤ R.slots ∧ DK K ∧ (∀ q, AA K q → X.1 s q) ∧ va_K K.2.1 vwCl (tysOf K.2.2.2) s ∧ ST K (X.1 s) s ∧ X.2.2.1 s args R
def WX (K : KT) (X : XT) (h : Hp) (s : State) (H : Heap) (locs : List Loc) : Prop := va_P K.2.1 vwCl (wld K h) H ∧ va_S (X.1 s) s.heap H locs ∧ HOK h
def AW (K : KT) (X : XT) (own : String) (cc : ByteArray) (nL : Nat) (ret : Option FieldType) (dep pc : Nat) (ls : List (Option AV)) (st : List AV) (h : Hp) : Prop :=
  ∀ (p : Program) (e : Env) (R : Room) (s : State) (m : MethodId) (args : Array Value) (below : List Frame) (meth : Method) (c : Code) (H : Heap) (locs : List Loc) (lsA : Array Slot), CX K X own cc nL ret dep p R s m args meth c → WX K X h s H locs → lv_has lsA nL (lcv K.2.2.1 0 ls) →
    W p K.1 e R s m args below meth c H locs X.2.2.2.1 X.2.2.2.2 (X.2.1 below args s) (F0 m pc lsA (st.map (cv K.2.2.1)))
/-- a method's end: what it answers, the heap behind it -/
def Qx (K : KT) (ro : Option AV) (F : Hp → Prop) : Array Value → State → Outcome → State → Prop := fun _ st oc t => oc = .returned (ro.map (cv K.2.2.1)) ∧ (∃ hf, F hf ∧ va_P K.2.1 vwCl (wld K hf) t.heap ∧ HOK hf) ∧ va_F (AA K) st t
abbrev XP (K : KT) (ro : Option AV) (F : Hp → Prop) : XT := (fun _ => AA K, fun below args s => MQ below (Qx K ro F) args s 0 0 (AA K), fun _ _ _ => True, 0, 0)
abbrev XM (K : KT) (ro : Option AV) (hf : Hp) : XT := XP K ro (fun x => hf = x)
def Px (K : KT) (h : Hp) (U : State) : Prop := va_K K.2.1 vwCl (tysOf K.2.2.2) U ∧ va_P K.2.1 vwCl (wld K h) U.heap ∧ HOK h ∧ DK K ∧ ST K (AA K) U
abbrev rmx (dep : Nat) : Room := { frames := dep, cells := 0, slots := 0, locals := 64 * dep }
/-- a method's contract: from the heap h, with args, it answers ro and leaves a heap with F -/
def AMp (K : KT) (y : MethodName) (cc : ByteArray) (nL : Nat) (ret : Option FieldType) (dep : Nat) (args : List AV) (h : Hp) (ro : Option AV) (F : Hp → Prop) : Prop :=
  Met K.1 y (.code y cc nL ret :: wsL_law) (rmx dep) (va_Pc (args.map (cv K.2.2.1)) (fun U => Px K h U)) (Qx K ro F) 0 0 (AA K)
abbrev AM (K : KT) (y : MethodName) (cc : ByteArray) (nL : Nat) (ret : Option FieldType) (dep : Nat) (args : List AV) (h : Hp) (ro : Option AV) (hf : Hp) : Prop := AMp K y cc nL ret dep args h ro (fun x => hf = x)
theorem AM.of {K : KT} {y : MethodName} {own : String} {cc : ByteArray} {nL : Nat} {ret : Option FieldType} {dep : Nat} {args : List AV} {h : Hp} {ro : Option AV} {F : Hp → Prop} {ls : List (Option AV)} (hy : y.cls = own) (hp : plainName y.cls = true) (hn : (lg_sl (args.map (cv K.2.2.1))).length ≤ nL) (hls : lv_args 0 (args.map (cv K.2.2.1)) = lcv K.2.2.1 0 ls) (k : HOK h → AW K (XP K ro F) own cc nL ret dep 0 ls [] h) : AMp K y cc nL ret dep args h ro F := by
  refine Met.ofW (cc := cc) (maxL := nL) (ret := ret) hp rfl ?_
  intro p e s m a below meth c s₁ B hml hv
  obtain ⟨rfl, hK, hP, hO, hD, hT⟩ := hv
  have hts : ∀ w ∈ (Cond.code y cc nL ret :: wsL_law), w.before _ s = true := atoms_spec (ws := Cond.code y cc nL ret :: wsL_law) B.pre
  have hown : s.vm.findClass own = some m.cls := by
    have q := findClass_of_methodNamed B.named
    rwa [hy] at q
  have hl := lv_entry (args.map (cv K.2.2.1)) (n := nL) hn
  rw [lg_entry_eq]
  rw [hls] at hl
  exact k hO p e _ s m _ below meth c s.heap [] _ ⟨B.exec, B.bytes, B.returns, hml, hown, fun w hw => hts w (List.mem_cons_of_mem _ hw), B.notSynchronized, Nat.le_refl _, Nat.le_refl _, Nat.le_refl _, Nat.le_refl _, hD, fun _ h => h, hK, hT, trivial⟩ ⟨hP, va_S.rf, hO⟩ hl
section AWR
variable {K : KT} {X : XT} {own : String} {cc : ByteArray} {nL : Nat} {ret : Option FieldType} {dep pc pc' : Nat} {ls : List (Option AV)} {st : List AV} {h : Hp}
/-- fewer locals known, or the same under other names -/
def LSub : List (Option AV) → List (Option AV) → Prop
  | [], _ => True
  | none :: r, _ :: q => LSub r q
  | some v :: r, some w :: q => v = w ∧ LSub r q
  | none :: r, [] => LSub r []
  | some _ :: _, none :: _ => False
  | some _ :: _, [] => False
theorem LSub.get : ∀ (a b : List (Option AV)) (n : Nat) (v : AV), LSub a b → a[n]? = some (some v) → b[n]? = some (some v)
  | [], b, n, v, h, g => by simp at g
  | none :: r, w :: q, 0, v, h, g => by simp at g
  | none :: r, w :: q, n + 1, v, h, g => by
    rw [List.getElem?_cons_succ] at g ⊢
    exact LSub.get r q n v (by cases w <;> exact h) g
  | some z :: r, some w :: q, 0, v, h, g => by
    rw [List.getElem?_cons_zero] at g ⊢
    rw [← h.1]
    exact g
  | some z :: r, some w :: q, n + 1, v, h, g => by
    rw [List.getElem?_cons_succ] at g ⊢
    exact LSub.get r q n v h.2 g
  | none :: r, [], 0, v, h, g => by simp at g
  | none :: r, [], n + 1, v, h, g => by
    rw [List.getElem?_cons_succ] at g
    have := LSub.get r [] n v h g
    simp at this
  | some z :: r, none :: q, n, v, h, g => h.elim
  | some z :: r, [], n, v, h, g => h.elim
theorem LSub.rfl' : ∀ a : List (Option AV), LSub a a
  | [] => trivial
  | none :: r => LSub.rfl' r
  | some v :: r => ⟨rfl, LSub.rfl' r⟩
theorem lv_LS {ad : Nat → Nat} {a b : List (Option AV)} {lsA : Array Slot} {nL : Nat} (h : LSub a b) (hl : lv_has lsA nL (lcv ad 0 b)) : lv_has lsA nL (lcv ad 0 a) := by
  refine ⟨hl.1, hl.2.1, fun q hq => ?_⟩
  obtain ⟨n, v, h1, h2⟩ := lcv_of a 0 q hq
  rw [h1]
  exact hl.2.2 _ (lcv_mem b 0 n v (LSub.get a b n v h h2))
theorem AW.weak {ls' : List (Option AV)} (k : AW K X own cc nL ret dep pc ls' st h) (hl : LSub ls' ls) : AW K X own cc nL ret dep pc ls st h :=
  fun p e R s m args below meth c H locs lsA C Wx q => k p e R s m args below meth c H locs lsA C Wx (lv_LS hl q)
theorem AW.heap {h' : Hp} (k : AW K X own cc nL ret dep pc ls st h') (e : h = h') : AW K X own cc nL ret dep pc ls st h := e ▸ k
theorem AW.stack {st' : List AV} (k : AW K X own cc nL ret dep pc ls st' h) (e : st = st') : AW K X own cc nL ret dep pc ls st h := e ▸ k
theorem AW.top {a b : Int} (e : a = b) (k : AW K X own cc nL ret dep pc ls (vI b :: st) h) : AW K X own cc nL ret dep pc ls (vI a :: st) h := e ▸ k
theorem AW.topL {a b : Int} (e : a = b) (k : AW K X own cc nL ret dep pc ls (vL b :: st) h) : AW K X own cc nL ret dep pc ls (vL a :: st) h := e ▸ k
/-- ints that are alike mod 2^32 -/
theorem AW.cong {a b : Int} (e : Int32.ofInt a = Int32.ofInt b) (k : AW K X own cc nL ret dep pc ls (vI b :: st) h) : AW K X own cc nL ret dep pc ls (vI a :: st) h := by
  intro p e' R s m args below meth c H locs lsA C Wx q
  have w := k p e' R s m args below meth c H locs lsA C Wx q
  simp only [List.map, cv] at w ⊢
  rw [e]
  exact w
theorem AW.known (k : HOK h → AW K X own cc nL ret dep pc ls st h) : AW K X own cc nL ret dep pc ls st h :=
  fun p e R s m args below meth c H locs lsA C Wx q => k Wx.2.2 p e R s m args below meth c H locs lsA C Wx q

theorem AW.iconst {n : Int} (hd : decode cc pc = .ok (.iconst n, 1)) (k : AW K X own cc nL ret dep pc' ls (vI n :: st) h) (hp : pc + 1 = pc' := by rfl) : AW K X own cc nL ret dep pc ls (st) h := by
  subst hp
  intro p e R s m args below meth c H locs lsA C Wx q
  have w := k p e R s m args below meth c H locs lsA C Wx q
  simp only [List.map, cv] at w ⊢
  exact lv_iconst C.1 C.2.1 hd rfl w
theorem bip {n : Int} (h : inB n) : (Int8.ofInt n).toInt32 = Int32.ofInt n := by
  apply Int32.toInt_inj.mp
  have h1 : (Int8.ofInt n).toInt = n := Int8.toInt_ofInt_of_le (by unfold inB at h; omega) (by unfold inB at h; omega)
  rw [Int8.toInt_toInt32, h1, Int32.toInt_ofInt_of_le (by unfold inB at h; omega) (by unfold inB at h; omega)]
theorem sip {n : Int} (h1 : -32768 ≤ n) (h2 : n ≤ 32767) : (Int16.ofInt n).toInt32 = Int32.ofInt n := by
  apply Int32.toInt_inj.mp
  have h1 : (Int16.ofInt n).toInt = n := Int16.toInt_ofInt_of_le (by omega) (by omega)
  rw [Int16.toInt_toInt32, h1, Int32.toInt_ofInt_of_le (by omega) (by omega)]
theorem AW.bipush {n : Int} (hd : decode cc pc = .ok (.bipush n, 2)) (hn : inB n := by decide) (k : AW K X own cc nL ret dep pc' ls (vI n :: st) h) (hp : pc + 2 = pc' := by rfl) : AW K X own cc nL ret dep pc ls (st) h := by
  subst hp
  intro p e R s m args below meth c H locs lsA C Wx q
  have w := k p e R s m args below meth c H locs lsA C Wx q
  simp only [List.map, cv] at w ⊢
  exact lv_bipush C.1 C.2.1 hd (bip hn) w
theorem AW.sipush {n : Int} (hd : decode cc pc = .ok (.sipush n, 3)) (hn : -32768 ≤ n ∧ n ≤ 32767 := by decide) (k : AW K X own cc nL ret dep pc' ls (vI n :: st) h) (hp : pc + 3 = pc' := by rfl) : AW K X own cc nL ret dep pc ls (st) h := by
  subst hp
  intro p e R s m args below meth c H locs lsA C Wx q
  have w := k p e R s m args below meth c H locs lsA C Wx q
  simp only [List.map, cv] at w ⊢
  exact lv_sipush C.1 C.2.1 hd (sip hn.1 hn.2) w
theorem AW.lconst_0  (hd : decode cc pc = .ok (.lconst 0, 1)) (k : AW K X own cc nL ret dep pc' ls (vL 0 :: st) h) (hp : pc + 1 = pc' := by rfl) : AW K X own cc nL ret dep pc ls (st) h := by
  subst hp
  intro p e R s m args below meth c H locs lsA C Wx q
  have w := k p e R s m args below meth c H locs lsA C Wx q
  simp only [List.map, cv] at w ⊢
  exact lv_lconst C.1 C.2.1 hd rfl w
theorem AW.lconst_1  (hd : decode cc pc = .ok (.lconst 1, 1)) (k : AW K X own cc nL ret dep pc' ls (vL 1 :: st) h) (hp : pc + 1 = pc' := by rfl) : AW K X own cc nL ret dep pc ls (st) h := by
  subst hp
  intro p e R s m args below meth c H locs lsA C Wx q
  have w := k p e R s m args below meth c H locs lsA C Wx q
  simp only [List.map, cv] at w ⊢
  exact lv_lconst C.1 C.2.1 hd rfl w
theorem AW.iload_n {x : Int} {kk : Fin 4} (hd : decode cc pc = .ok (.iload_n kk, 1)) (hx : ls[(kk : Nat)]? = some (some (vI x))) (k : AW K X own cc nL ret dep pc' ls (vI x :: st) h) (hp : pc + 1 = pc' := by rfl) : AW K X own cc nL ret dep pc ls st h := by
  subst hp
  intro p e R s m args below meth c H locs lsA C Wx q
  have w := k p e R s m args below meth c H locs lsA C Wx q
  have g := q.2.2 _ (lcv_mem ls 0 _ _ hx)
  simp only [List.map, cv, Nat.zero_add] at w g ⊢
  exact lv_iload_n C.1 C.2.1 hd rfl g w
theorem AW.iload {x : Int} {i : Nat} (hd : decode cc pc = .ok (.iload i, 2)) (hx : ls[i]? = some (some (vI x))) (k : AW K X own cc nL ret dep pc' ls (vI x :: st) h) (hp : pc + 2 = pc' := by rfl) : AW K X own cc nL ret dep pc ls st h := by
  subst hp
  intro p e R s m args below meth c H locs lsA C Wx q
  have w := k p e R s m args below meth c H locs lsA C Wx q
  have g := q.2.2 _ (lcv_mem ls 0 _ _ hx)
  simp only [List.map, cv, Nat.zero_add] at w g ⊢
  exact lv_iload C.1 C.2.1 hd g w
theorem AW.lload_n {x : Int} {kk : Fin 4} (hd : decode cc pc = .ok (.lload_n kk, 1)) (hx : ls[(kk : Nat)]? = some (some (vL x))) (k : AW K X own cc nL ret dep pc' ls (vL x :: st) h) (hp : pc + 1 = pc' := by rfl) : AW K X own cc nL ret dep pc ls st h := by
  subst hp
  intro p e R s m args below meth c H locs lsA C Wx q
  have w := k p e R s m args below meth c H locs lsA C Wx q
  have g := q.2.2 _ (lcv_mem ls 0 _ _ hx)
  simp only [List.map, cv, Nat.zero_add] at w g ⊢
  exact lv_lload_n C.1 C.2.1 hd rfl g w
theorem AW.lload {x : Int} {i : Nat} (hd : decode cc pc = .ok (.lload i, 2)) (hx : ls[i]? = some (some (vL x))) (k : AW K X own cc nL ret dep pc' ls (vL x :: st) h) (hp : pc + 2 = pc' := by rfl) : AW K X own cc nL ret dep pc ls st h := by
  subst hp
  intro p e R s m args below meth c H locs lsA C Wx q
  have w := k p e R s m args below meth c H locs lsA C Wx q
  have g := q.2.2 _ (lcv_mem ls 0 _ _ hx)
  simp only [List.map, cv, Nat.zero_add] at w g ⊢
  exact lv_lload C.1 C.2.1 hd g w
theorem AW.aload_n {x : Nat} {kk : Fin 4} (hd : decode cc pc = .ok (.aload_n kk, 1)) (hx : ls[(kk : Nat)]? = some (some (vR x))) (k : AW K X own cc nL ret dep pc' ls (vR x :: st) h) (hp : pc + 1 = pc' := by rfl) : AW K X own cc nL ret dep pc ls st h := by
  subst hp
  intro p e R s m args below meth c H locs lsA C Wx q
  have w := k p e R s m args below meth c H locs lsA C Wx q
  have g := q.2.2 _ (lcv_mem ls 0 _ _ hx)
  simp only [List.map, cv, Nat.zero_add] at w g ⊢
  exact lv_aload_n C.1 C.2.1 hd rfl g w
theorem AW.aload {x : Nat} {i : Nat} (hd : decode cc pc = .ok (.aload i, 2)) (hx : ls[i]? = some (some (vR x))) (k : AW K X own cc nL ret dep pc' ls (vR x :: st) h) (hp : pc + 2 = pc' := by rfl) : AW K X own cc nL ret dep pc ls st h := by
  subst hp
  intro p e R s m args below meth c H locs lsA C Wx q
  have w := k p e R s m args below meth c H locs lsA C Wx q
  have g := q.2.2 _ (lcv_mem ls 0 _ _ hx)
  simp only [List.map, cv, Nat.zero_add] at w g ⊢
  exact lv_aload C.1 C.2.1 hd g w
def nol : Option AV → Bool
  | some (Sum.inr (Sum.inl _)) => false
  | _ => true
def lset (ls : List (Option AV)) (n : Nat) (v : AV) : List (Option AV) := ls.set n (some v)
/-- nothing long ends at n -/
def okl (ls : List (Option AV)) : Nat → Bool
  | 0 => true
  | n + 1 => match ls[n]? with
    | some o => nol o
    | none => true
theorem cat_nol {ad : Nat → Nat} {v : AV} (h : nol (some v) = true) : (cv ad v).category = 1 := by
  rcases v with v | v | v
  · rfl
  · simp [nol] at h
  · cases v <;> rfl
theorem lset_has {ad : Nat → Nat} {ls : List (Option AV)} {nL n : Nat} {v : AV} {lsA : Array Slot} (hok : okl ls n = true) (h : lv_has lsA nL ((n, cv ad v) :: (lcv ad 0 ls).filter (fun q => !(q.1 == n) && !(q.1 + 1 == n && q.2.category == 2)))) : lv_has lsA nL (lcv ad 0 (lset ls n v)) := by
  refine ⟨h.1, h.2.1, fun q hq => h.2.2 q ?_⟩
  obtain ⟨i, z, h1, h2⟩ := lcv_of _ 0 q hq
  rw [Nat.zero_add] at h1
  subst h1
  unfold lset at h2
  by_cases hi : i = n
  · subst hi
    have hl : i < ls.length := by
      have := (List.getElem?_eq_some_iff.mp h2).1
      simpa using this
    rw [List.getElem?_set_self hl] at h2
    cases h2
    exact List.mem_cons_self
  · rw [List.getElem?_set_ne (Ne.symm hi)] at h2
    refine List.mem_cons_of_mem _ (List.mem_filter.mpr ⟨by simpa using lcv_mem ls 0 i z h2, ?_⟩)
    have : ¬ (i + 1 = n ∧ (cv ad z).category = 2) := by
      rintro ⟨rfl, hc⟩
      simp only [okl, h2] at hok
      rw [cat_nol hok] at hc
      cases hc
    simp only [Bool.and_eq_true, Bool.not_eq_true', beq_eq_false_iff_ne, ne_eq, hi, not_false_eq_true, true_and, Bool.and_eq_false_iff]
    by_cases h3 : i + 1 = n
    · right
      intro h4
      exact this ⟨h3, h4⟩
    · exact Or.inl h3
/-- a long takes two -/
def lsetL (ls : List (Option AV)) (n : Nat) (v : AV) : List (Option AV) := (ls.set n (some v)).set (n + 1) none
theorem lsetL_has {ad : Nat → Nat} {ls : List (Option AV)} {nL n : Nat} {v : AV} {lsA : Array Slot} (hok : okl ls n = true) (h : lv_has lsA nL ((n, cv ad v) :: (lcv ad 0 ls).filter (fun q => !(q.1 == n) && (!(q.1 == n + 1) && !(q.1 + 1 == n && q.2.category == 2))))) : lv_has lsA nL (lcv ad 0 (lsetL ls n v)) := by
  refine ⟨h.1, h.2.1, fun q hq => h.2.2 q ?_⟩
  obtain ⟨i, z, h1, h2⟩ := lcv_of _ 0 q hq
  rw [Nat.zero_add] at h1
  subst h1
  unfold lsetL at h2
  have hi1 : i ≠ n + 1 := by
    rintro rfl
    have hl : n + 1 < ((ls.set n (some v)).set (n + 1) none).length := (List.getElem?_eq_some_iff.mp h2).1
    rw [List.getElem?_set_self (by simpa using hl)] at h2
    cases h2
  rw [List.getElem?_set_ne (Ne.symm hi1)] at h2
  by_cases hi : i = n
  · subst hi
    have hl : i < ls.length := by
      have := (List.getElem?_eq_some_iff.mp h2).1
      simpa using this
    rw [List.getElem?_set_self hl] at h2
    cases h2
    exact List.mem_cons_self
  · rw [List.getElem?_set_ne (Ne.symm hi)] at h2
    refine List.mem_cons_of_mem _ (List.mem_filter.mpr ⟨by simpa using lcv_mem ls 0 i z h2, ?_⟩)
    have : ¬ (i + 1 = n ∧ (cv ad z).category = 2) := by
      rintro ⟨rfl, hc⟩
      simp only [okl, h2] at hok
      rw [cat_nol hok] at hc
      cases hc
    simp only [Bool.and_eq_true, Bool.not_eq_true', beq_eq_false_iff_ne, ne_eq, hi, hi1, not_false_eq_true, true_and, Bool.and_eq_false_iff]
    by_cases h3 : i + 1 = n
    · right
      intro h4
      exact this ⟨h3, h4⟩
    · exact Or.inl h3
theorem AW.istore_n {x : Int} {kk : Fin 4} {i : Nat} {ls' : List (Option AV)} (hd : decode cc pc = .ok (.istore_n kk, 1)) (hi : (kk : Nat) = i) (hn : i + 1 ≤ nL) (hok : okl ls i = true) (hls : lset ls i (vI x) = ls') (k : AW K X own cc nL ret dep pc' ls' st h) (hp : pc + 1 = pc' := by rfl) : AW K X own cc nL ret dep pc ls (vI x :: st) h := by
  subst hp
  subst hls
  intro p e R s m args below meth c H locs lsA C Wx q
  exact lv_istore_n C.1 C.2.1 hd hi q (by omega) rfl (fun lsB hB => k p e R s m args below meth c H locs lsB C Wx (lset_has hok hB))
theorem AW.istore {x : Int} {i : Nat} {ls' : List (Option AV)} (hd : decode cc pc = .ok (.istore i, 2)) (hn : i + 1 ≤ nL) (hok : okl ls i = true) (hls : lset ls i (vI x) = ls') (k : AW K X own cc nL ret dep pc' ls' st h) (hp : pc + 2 = pc' := by rfl) : AW K X own cc nL ret dep pc ls (vI x :: st) h := by
  subst hp
  subst hls
  intro p e R s m args below meth c H locs lsA C Wx q
  exact lv_istore C.1 C.2.1 hd q (by omega) rfl (fun lsB hB => k p e R s m args below meth c H locs lsB C Wx (lset_has hok hB))
theorem AW.lstore_n {x : Int} {kk : Fin 4} {i : Nat} {ls' : List (Option AV)} (hd : decode cc pc = .ok (.lstore_n kk, 1)) (hi : (kk : Nat) = i) (hn : i + 2 ≤ nL) (hok : okl ls i = true) (hls : lsetL ls i (vL x) = ls') (k : AW K X own cc nL ret dep pc' ls' st h) (hp : pc + 1 = pc' := by rfl) : AW K X own cc nL ret dep pc ls (vL x :: st) h := by
  subst hp
  subst hls
  intro p e R s m args below meth c H locs lsA C Wx q
  exact lv_lstore_n C.1 C.2.1 hd hi q (by omega) rfl (fun lsB hB => k p e R s m args below meth c H locs lsB C Wx (lsetL_has hok hB))
theorem AW.lstore {x : Int} {i : Nat} {ls' : List (Option AV)} (hd : decode cc pc = .ok (.lstore i, 2)) (hn : i + 2 ≤ nL) (hok : okl ls i = true) (hls : lsetL ls i (vL x) = ls') (k : AW K X own cc nL ret dep pc' ls' st h) (hp : pc + 2 = pc' := by rfl) : AW K X own cc nL ret dep pc ls (vL x :: st) h := by
  subst hp
  subst hls
  intro p e R s m args below meth c H locs lsA C Wx q
  exact lv_lstore C.1 C.2.1 hd q (by omega) rfl (fun lsB hB => k p e R s m args below meth c H locs lsB C Wx (lsetL_has hok hB))
theorem AW.astore_n {x : Nat} {kk : Fin 4} {i : Nat} {ls' : List (Option AV)} (hd : decode cc pc = .ok (.astore_n kk, 1)) (hi : (kk : Nat) = i) (hn : i + 1 ≤ nL) (hok : okl ls i = true) (hls : lset ls i (vR x) = ls') (k : AW K X own cc nL ret dep pc' ls' st h) (hp : pc + 1 = pc' := by rfl) : AW K X own cc nL ret dep pc ls (vR x :: st) h := by
  subst hp
  subst hls
  intro p e R s m args below meth c H locs lsA C Wx q
  exact lv_astore_n C.1 C.2.1 hd hi q (by omega) rfl (fun lsB hB => k p e R s m args below meth c H locs lsB C Wx (lset_has hok hB))
theorem AW.astore {x : Nat} {i : Nat} {ls' : List (Option AV)} (hd : decode cc pc = .ok (.astore i, 2)) (hn : i + 1 ≤ nL) (hok : okl ls i = true) (hls : lset ls i (vR x) = ls') (k : AW K X own cc nL ret dep pc' ls' st h) (hp : pc + 2 = pc' := by rfl) : AW K X own cc nL ret dep pc ls (vR x :: st) h := by
  subst hp
  subst hls
  intro p e R s m args below meth c H locs lsA C Wx q
  exact lv_astore C.1 C.2.1 hd q (by omega) rfl (fun lsB hB => k p e R s m args below meth c H locs lsB C Wx (lset_has hok hB))
theorem AW.iinc {x : Int} {i : Nat} {n : Int} {ls' : List (Option AV)} (hd : decode cc pc = .ok (.iinc i n, 3)) (hx : ls[i]? = some (some (vI x))) (hn : i + 1 ≤ nL) (hok : okl ls i = true) (hls : lset ls i (vI (x + n)) = ls') (k : AW K X own cc nL ret dep pc' ls' st h) (hp : pc + 3 = pc' := by rfl) : AW K X own cc nL ret dep pc ls st h := by
  subst hp
  subst hls
  intro p e R s m args below meth c H locs lsA C Wx q
  have g := lcv_mem (ad := K.2.2.1) ls 0 _ _ hx
  rw [Nat.zero_add] at g
  obtain ⟨j, hj⟩ := List.getElem?_of_mem g
  exact lv_iinc C.1 C.2.1 hd q (k := j) hj (Int32.ofInt_add x n).symm (by omega) rfl (fun lsB hB => k p e R s m args below meth c H locs lsB C Wx (lset_has hok hB))
theorem AW.iadd {a b : Int} (hd : decode cc pc = .ok (.iadd, 1)) (k : AW K X own cc nL ret dep pc' ls (vI (a + b) :: st) h) (hp : pc + 1 = pc' := by rfl) : AW K X own cc nL ret dep pc ls (vI b :: vI a :: st) h := by
  subst hp
  intro p e R s m args below meth c H locs lsA C Wx q
  have w := k p e R s m args below meth c H locs lsA C Wx q
  simp only [List.map, cv] at w ⊢
  rw [Int32.ofInt_add] at w
  exact lv_iadd C.1 C.2.1 hd w
theorem AW.isub {a b : Int} (hd : decode cc pc = .ok (.isub, 1)) (k : AW K X own cc nL ret dep pc' ls (vI (a - b) :: st) h) (hp : pc + 1 = pc' := by rfl) : AW K X own cc nL ret dep pc ls (vI b :: vI a :: st) h := by
  subst hp
  intro p e R s m args below meth c H locs lsA C Wx q
  have w := k p e R s m args below meth c H locs lsA C Wx q
  simp only [List.map, cv] at w ⊢
  rw [Int32.ofInt_sub] at w
  exact lv_isub C.1 C.2.1 hd w
theorem AW.imul {a b : Int} (hd : decode cc pc = .ok (.imul, 1)) (k : AW K X own cc nL ret dep pc' ls (vI (a * b) :: st) h) (hp : pc + 1 = pc' := by rfl) : AW K X own cc nL ret dep pc ls (vI b :: vI a :: st) h := by
  subst hp
  intro p e R s m args below meth c H locs lsA C Wx q
  have w := k p e R s m args below meth c H locs lsA C Wx q
  simp only [List.map, cv] at w ⊢
  rw [Int32.ofInt_mul] at w
  exact lv_imul C.1 C.2.1 hd w
theorem AW.ladd {a b : Int} (hd : decode cc pc = .ok (.ladd, 1)) (k : AW K X own cc nL ret dep pc' ls (vL (a + b) :: st) h) (hp : pc + 1 = pc' := by rfl) : AW K X own cc nL ret dep pc ls (vL b :: vL a :: st) h := by
  subst hp
  intro p e R s m args below meth c H locs lsA C Wx q
  have w := k p e R s m args below meth c H locs lsA C Wx q
  simp only [List.map, cv] at w ⊢
  rw [Int64.ofInt_add] at w
  exact lv_ladd C.1 C.2.1 hd w
theorem AW.lsub {a b : Int} (hd : decode cc pc = .ok (.lsub, 1)) (k : AW K X own cc nL ret dep pc' ls (vL (a - b) :: st) h) (hp : pc + 1 = pc' := by rfl) : AW K X own cc nL ret dep pc ls (vL b :: vL a :: st) h := by
  subst hp
  intro p e R s m args below meth c H locs lsA C Wx q
  have w := k p e R s m args below meth c H locs lsA C Wx q
  simp only [List.map, cv] at w ⊢
  rw [Int64.ofInt_sub] at w
  exact lv_lsub C.1 C.2.1 hd w
theorem AW.lmul {a b : Int} (hd : decode cc pc = .ok (.lmul, 1)) (k : AW K X own cc nL ret dep pc' ls (vL (a * b) :: st) h) (hp : pc + 1 = pc' := by rfl) : AW K X own cc nL ret dep pc ls (vL b :: vL a :: st) h := by
  subst hp
  intro p e R s m args below meth c H locs lsA C Wx q
  have w := k p e R s m args below meth c H locs lsA C Wx q
  simp only [List.map, cv] at w ⊢
  rw [Int64.ofInt_mul] at w
  exact lv_lmul C.1 C.2.1 hd w
theorem AW.ineg {a : Int} (hd : decode cc pc = .ok (.ineg, 1)) (k : AW K X own cc nL ret dep pc' ls (vI (-a) :: st) h) (hp : pc + 1 = pc' := by rfl) : AW K X own cc nL ret dep pc ls (vI a :: st) h := by
  subst hp
  intro p e R s m args below meth c H locs lsA C Wx q
  have w := k p e R s m args below meth c H locs lsA C Wx q
  simp only [List.map, cv] at w ⊢
  rw [Int32.ofInt_neg] at w
  exact lv_ineg C.1 C.2.1 hd w
theorem i32of {a : Int} (h : inI a) : (Int32.ofInt a).toInt = a := Int32.toInt_ofInt_of_le (by unfold inI at h; omega) (by unfold inI at h; omega)
theorem i64of {a : Int} (h : inL a) : (Int64.ofInt a).toInt = a := Int64.toInt_ofInt_of_le (by unfold inL at h; omega) (by unfold inL at h; omega)
theorem i32ne {a : Int} (h : inI a) (h0 : a ≠ 0) : ¬ Int32.ofInt a = 0 := fun e => h0 (by have := congrArg Int32.toInt e; rwa [i32of h] at this)
theorem i64ne {a : Int} (h : inL a) (h0 : a ≠ 0) : ¬ Int64.ofInt a = 0 := fun e => h0 (by have := congrArg Int64.toInt e; rwa [i64of h] at this)
theorem i32eq {a b : Int} (ha : inI a) (hb : inI b) : Int32.ofInt a = Int32.ofInt b ↔ a = b := ⟨fun e => by have := congrArg Int32.toInt e; rwa [i32of ha, i32of hb] at this, fun e => by rw [e]⟩
theorem i32lt {a b : Int} (ha : inI a) (hb : inI b) : Int32.ofInt a < Int32.ofInt b ↔ a < b := by rw [Int32.lt_iff_toInt_lt, i32of ha, i32of hb]
theorem i32le {a b : Int} (ha : inI a) (hb : inI b) : Int32.ofInt a ≤ Int32.ofInt b ↔ a ≤ b := by rw [Int32.le_iff_toInt_le, i32of ha, i32of hb]
theorem i32div {a b : Int} (ha : inI a) (hb : inI b) : Int32.ofInt a / Int32.ofInt b = Int32.ofInt (a.tdiv b) := (Int32.ofInt_tdiv (by unfold inI at ha; exact ha.1) (by unfold inI at ha; exact ha.2) (by unfold inI at hb; exact hb.1) (by unfold inI at hb; exact hb.2)).symm
theorem i64div {a b : Int} (ha : inL a) (hb : inL b) : Int64.ofInt a / Int64.ofInt b = Int64.ofInt (a.tdiv b) := (Int64.ofInt_tdiv (by unfold inL at ha; exact ha.1) (by unfold inL at ha; exact ha.2) (by unfold inL at hb; exact hb.1) (by unfold inL at hb; exact hb.2)).symm
theorem i32mod {a b : Int} (ha : inI a) (hb : inI b) : Int32.ofInt a - Int32.ofInt a / Int32.ofInt b * Int32.ofInt b = Int32.ofInt (a.tmod b) := by
  rw [irem_eq_mod]
  exact (Int32.ofInt_tmod (by unfold inI at ha; exact ha.1) (by unfold inI at ha; exact ha.2) (by unfold inI at hb; exact hb.1) (by unfold inI at hb; exact hb.2)).symm
theorem i32to64 {a : Int} (ha : inI a) : (Int32.ofInt a).toInt64 = Int64.ofInt a := by
  apply Int64.toInt_inj.mp
  rw [Int32.toInt_toInt64, i32of ha, i64of (by unfold inI at ha; unfold inL; omega)]
theorem i64to32 (a : Int) : (Int64.ofInt a).toInt32 = Int32.ofInt a := by
  apply Int32.toInt_inj.mp
  rw [Int64.toInt_toInt32, Int64.toInt_ofInt, Int32.toInt_ofInt, Int.bmod_bmod_of_dvd (by decide)]
theorem AW.idiv {a b : Int} (hd : decode cc pc = .ok (.idiv, 1)) (ha : inI a) (hb : inI b) (h0 : b ≠ 0) (k : AW K X own cc nL ret dep pc' ls (vI (a.tdiv b) :: st) h) (hp : pc + 1 = pc' := by rfl) : AW K X own cc nL ret dep pc ls (vI b :: vI a :: st) h := by
  subst hp
  intro p e R s m args below meth c H locs lsA C Wx q
  have w := k p e R s m args below meth c H locs lsA C Wx q
  simp only [List.map, cv] at w ⊢
  rw [← i32div ha hb] at w
  exact lv_idiv C.1 C.2.1 hd (i32ne hb h0) w
theorem AW.irem {a b : Int} (hd : decode cc pc = .ok (.irem, 1)) (ha : inI a) (hb : inI b) (h0 : b ≠ 0) (k : AW K X own cc nL ret dep pc' ls (vI (a.tmod b) :: st) h) (hp : pc + 1 = pc' := by rfl) : AW K X own cc nL ret dep pc ls (vI b :: vI a :: st) h := by
  subst hp
  intro p e R s m args below meth c H locs lsA C Wx q
  have w := k p e R s m args below meth c H locs lsA C Wx q
  simp only [List.map, cv] at w ⊢
  rw [← i32mod ha hb] at w
  exact lv_irem C.1 C.2.1 hd (i32ne hb h0) w
theorem AW.ldiv {a b : Int} (hd : decode cc pc = .ok (.ldiv, 1)) (ha : inL a) (hb : inL b) (h0 : b ≠ 0) (k : AW K X own cc nL ret dep pc' ls (vL (a.tdiv b) :: st) h) (hp : pc + 1 = pc' := by rfl) : AW K X own cc nL ret dep pc ls (vL b :: vL a :: st) h := by
  subst hp
  intro p e R s m args below meth c H locs lsA C Wx q
  have w := k p e R s m args below meth c H locs lsA C Wx q
  simp only [List.map, cv] at w ⊢
  rw [← i64div ha hb] at w
  exact lv_ldiv C.1 C.2.1 hd (i64ne hb h0) w
theorem AW.i2l {a : Int} (hd : decode cc pc = .ok (.i2l, 1)) (ha : inI a) (k : AW K X own cc nL ret dep pc' ls (vL a :: st) h) (hp : pc + 1 = pc' := by rfl) : AW K X own cc nL ret dep pc ls (vI a :: st) h := by
  subst hp
  intro p e R s m args below meth c H locs lsA C Wx q
  have w := k p e R s m args below meth c H locs lsA C Wx q
  simp only [List.map, cv] at w ⊢
  exact lv_i2l C.1 C.2.1 hd (i32to64 ha) w
theorem AW.l2i {a : Int} (hd : decode cc pc = .ok (.l2i, 1)) (k : AW K X own cc nL ret dep pc' ls (vI a :: st) h) (hp : pc + 1 = pc' := by rfl) : AW K X own cc nL ret dep pc ls (vL a :: st) h := by
  subst hp
  intro p e R s m args below meth c H locs lsA C Wx q
  have w := k p e R s m args below meth c H locs lsA C Wx q
  simp only [List.map, cv] at w ⊢
  exact lv_l2i C.1 C.2.1 hd (i64to32 a) w
theorem AW.iand {a b : Int} (hd : decode cc pc = .ok (.iand, 1)) (k : AW K X own cc nL ret dep pc' ls (vI (Int32.ofInt a &&& Int32.ofInt b).toInt :: st) h) (hp : pc + 1 = pc' := by rfl) : AW K X own cc nL ret dep pc ls (vI b :: vI a :: st) h := by
  subst hp
  intro p e R s m args below meth c H locs lsA C Wx q
  have w := k p e R s m args below meth c H locs lsA C Wx q
  simp only [List.map, cv] at w ⊢
  rw [Int32.ofInt_toInt] at w
  exact lv_iand C.1 C.2.1 hd w
theorem AW.ior {a b : Int} (hd : decode cc pc = .ok (.ior, 1)) (k : AW K X own cc nL ret dep pc' ls (vI (Int32.ofInt a ||| Int32.ofInt b).toInt :: st) h) (hp : pc + 1 = pc' := by rfl) : AW K X own cc nL ret dep pc ls (vI b :: vI a :: st) h := by
  subst hp
  intro p e R s m args below meth c H locs lsA C Wx q
  have w := k p e R s m args below meth c H locs lsA C Wx q
  simp only [List.map, cv] at w ⊢
  rw [Int32.ofInt_toInt] at w
  exact lv_ior C.1 C.2.1 hd w
theorem AW.ixor {a b : Int} (hd : decode cc pc = .ok (.ixor, 1)) (k : AW K X own cc nL ret dep pc' ls (vI (Int32.ofInt a ^^^ Int32.ofInt b).toInt :: st) h) (hp : pc + 1 = pc' := by rfl) : AW K X own cc nL ret dep pc ls (vI b :: vI a :: st) h := by
  subst hp
  intro p e R s m args below meth c H locs lsA C Wx q
  have w := k p e R s m args below meth c H locs lsA C Wx q
  simp only [List.map, cv] at w ⊢
  rw [Int32.ofInt_toInt] at w
  exact lv_ixor C.1 C.2.1 hd w
theorem AW.ishl {a b : Int} (hd : decode cc pc = .ok (.ishl, 1)) (k : AW K X own cc nL ret dep pc' ls (vI (Int32.ofInt a <<< (Int32.ofInt b &&& 31)).toInt :: st) h) (hp : pc + 1 = pc' := by rfl) : AW K X own cc nL ret dep pc ls (vI b :: vI a :: st) h := by
  subst hp
  intro p e R s m args below meth c H locs lsA C Wx q
  have w := k p e R s m args below meth c H locs lsA C Wx q
  simp only [List.map, cv] at w ⊢
  rw [Int32.ofInt_toInt] at w
  exact lv_ishl C.1 C.2.1 hd w
theorem AW.ishr {a b : Int} (hd : decode cc pc = .ok (.ishr, 1)) (k : AW K X own cc nL ret dep pc' ls (vI (Int32.ofInt a >>> (Int32.ofInt b &&& 31)).toInt :: st) h) (hp : pc + 1 = pc' := by rfl) : AW K X own cc nL ret dep pc ls (vI b :: vI a :: st) h := by
  subst hp
  intro p e R s m args below meth c H locs lsA C Wx q
  have w := k p e R s m args below meth c H locs lsA C Wx q
  simp only [List.map, cv] at w ⊢
  rw [Int32.ofInt_toInt] at w
  exact lv_ishr C.1 C.2.1 hd w
theorem AW.iushr {a b : Int} (hd : decode cc pc = .ok (.iushr, 1)) (k : AW K X own cc nL ret dep pc' ls (vI ((Int32.ofInt a).toUInt32 >>> ((Int32.ofInt b).toUInt32 &&& Int32.toUInt32 31)).toInt32.toInt :: st) h) (hp : pc + 1 = pc' := by rfl) : AW K X own cc nL ret dep pc ls (vI b :: vI a :: st) h := by
  subst hp
  intro p e R s m args below meth c H locs lsA C Wx q
  have w := k p e R s m args below meth c H locs lsA C Wx q
  simp only [List.map, cv] at w ⊢
  rw [Int32.ofInt_toInt] at w
  exact lv_iushr C.1 C.2.1 hd rfl w
theorem AW.i2b {a : Int} (hd : decode cc pc = .ok (.i2b, 1)) (k : AW K X own cc nL ret dep pc' ls (vI (Int32.ofInt a).toInt8.toInt32.toInt :: st) h) (hp : pc + 1 = pc' := by rfl) : AW K X own cc nL ret dep pc ls (vI a :: st) h := by
  subst hp
  intro p e R s m args below meth c H locs lsA C Wx q
  have w := k p e R s m args below meth c H locs lsA C Wx q
  simp only [List.map, cv] at w ⊢
  rw [Int32.ofInt_toInt] at w
  exact lv_i2b C.1 C.2.1 hd rfl w
theorem AW.i2s {a : Int} (hd : decode cc pc = .ok (.i2s, 1)) (k : AW K X own cc nL ret dep pc' ls (vI (Int32.ofInt a).toInt16.toInt32.toInt :: st) h) (hp : pc + 1 = pc' := by rfl) : AW K X own cc nL ret dep pc ls (vI a :: st) h := by
  subst hp
  intro p e R s m args below meth c H locs lsA C Wx q
  have w := k p e R s m args below meth c H locs lsA C Wx q
  simp only [List.map, cv] at w ⊢
  rw [Int32.ofInt_toInt] at w
  exact lv_i2s C.1 C.2.1 hd rfl w
theorem AW.dup {va : AV} (hd : decode cc pc = .ok (.dup, 1)) (hc : nol (some va) = true) (k : AW K X own cc nL ret dep pc' ls (va :: va :: st) h) (hp : pc + 1 = pc' := by rfl) : AW K X own cc nL ret dep pc ls (va :: st) h := by
  subst hp
  intro p e R s m args below meth c H locs lsA C Wx q
  have w := k p e R s m args below meth c H locs lsA C Wx q
  simp only [List.map, cv] at w ⊢
  exact lv_dup C.1 C.2.1 hd (cat_nol hc) w
theorem AW.pop {va : AV} (hd : decode cc pc = .ok (.pop, 1)) (hc : nol (some va) = true) (k : AW K X own cc nL ret dep pc' ls (st) h) (hp : pc + 1 = pc' := by rfl) : AW K X own cc nL ret dep pc ls (va :: st) h := by
  subst hp
  intro p e R s m args below meth c H locs lsA C Wx q
  have w := k p e R s m args below meth c H locs lsA C Wx q
  simp only [List.map, cv] at w ⊢
  exact lv_pop C.1 C.2.1 hd (cat_nol hc) w
theorem AW.icmp_eq {a b : Int} {off : Int} {tgt : Nat} (hd : decode cc pc = .ok (.if_icmp .eq off, 3)) (ha : inI a) (hb : inI b) (kt : a = b → AW K X own cc nL ret dep tgt ls st h) (kf : ¬ (a = b) → AW K X own cc nL ret dep pc' ls st h) (ht : (pc : Int) + off = (tgt : Int) := by decide) (hp : pc + 3 = pc' := by rfl) : AW K X own cc nL ret dep pc ls (vI b :: vI a :: st) h := by
  subst hp
  intro p e R s m args below meth c H locs lsA C Wx q
  simp only [List.map, cv]
  exact lv_icmp_eq C.1 C.2.1 hd ht (fun z => kt ((i32eq ha hb).mp z) p e R s m args below meth c H locs lsA C Wx q) (fun z => kf (fun y => z ((i32eq ha hb).mpr y)) p e R s m args below meth c H locs lsA C Wx q)
theorem AW.icmp_ne {a b : Int} {off : Int} {tgt : Nat} (hd : decode cc pc = .ok (.if_icmp .ne off, 3)) (ha : inI a) (hb : inI b) (kt : a ≠ b → AW K X own cc nL ret dep tgt ls st h) (kf : a = b → AW K X own cc nL ret dep pc' ls st h) (ht : (pc : Int) + off = (tgt : Int) := by decide) (hp : pc + 3 = pc' := by rfl) : AW K X own cc nL ret dep pc ls (vI b :: vI a :: st) h := by
  subst hp
  intro p e R s m args below meth c H locs lsA C Wx q
  simp only [List.map, cv]
  exact lv_icmp_ne C.1 C.2.1 hd ht (fun z => kt (fun y => z ((i32eq ha hb).mpr y)) p e R s m args below meth c H locs lsA C Wx q) (fun z => kf ((i32eq ha hb).mp z) p e R s m args below meth c H locs lsA C Wx q)
theorem AW.icmp_lt {a b : Int} {off : Int} {tgt : Nat} (hd : decode cc pc = .ok (.if_icmp .lt off, 3)) (ha : inI a) (hb : inI b) (kt : a < b → AW K X own cc nL ret dep tgt ls st h) (kf : ¬ (a < b) → AW K X own cc nL ret dep pc' ls st h) (ht : (pc : Int) + off = (tgt : Int) := by decide) (hp : pc + 3 = pc' := by rfl) : AW K X own cc nL ret dep pc ls (vI b :: vI a :: st) h := by
  subst hp
  intro p e R s m args below meth c H locs lsA C Wx q
  simp only [List.map, cv]
  exact lv_icmp_lt C.1 C.2.1 hd ht (fun z => kt ((i32lt ha hb).mp z) p e R s m args below meth c H locs lsA C Wx q) (fun z => kf (fun y => z ((i32lt ha hb).mpr y)) p e R s m args below meth c H locs lsA C Wx q)
theorem AW.icmp_ge {a b : Int} {off : Int} {tgt : Nat} (hd : decode cc pc = .ok (.if_icmp .ge off, 3)) (ha : inI a) (hb : inI b) (kt : b ≤ a → AW K X own cc nL ret dep tgt ls st h) (kf : ¬ (b ≤ a) → AW K X own cc nL ret dep pc' ls st h) (ht : (pc : Int) + off = (tgt : Int) := by decide) (hp : pc + 3 = pc' := by rfl) : AW K X own cc nL ret dep pc ls (vI b :: vI a :: st) h := by
  subst hp
  intro p e R s m args below meth c H locs lsA C Wx q
  simp only [List.map, cv]
  exact lv_icmp_ge C.1 C.2.1 hd ht (fun z => kt ((i32le hb ha).mp z) p e R s m args below meth c H locs lsA C Wx q) (fun z => kf (fun y => z ((i32le hb ha).mpr y)) p e R s m args below meth c H locs lsA C Wx q)
theorem AW.icmp_gt {a b : Int} {off : Int} {tgt : Nat} (hd : decode cc pc = .ok (.if_icmp .gt off, 3)) (ha : inI a) (hb : inI b) (kt : b < a → AW K X own cc nL ret dep tgt ls st h) (kf : ¬ (b < a) → AW K X own cc nL ret dep pc' ls st h) (ht : (pc : Int) + off = (tgt : Int) := by decide) (hp : pc + 3 = pc' := by rfl) : AW K X own cc nL ret dep pc ls (vI b :: vI a :: st) h := by
  subst hp
  intro p e R s m args below meth c H locs lsA C Wx q
  simp only [List.map, cv]
  exact lv_icmp_gt C.1 C.2.1 hd ht (fun z => kt ((i32lt hb ha).mp z) p e R s m args below meth c H locs lsA C Wx q) (fun z => kf (fun y => z ((i32lt hb ha).mpr y)) p e R s m args below meth c H locs lsA C Wx q)
theorem AW.icmp_le {a b : Int} {off : Int} {tgt : Nat} (hd : decode cc pc = .ok (.if_icmp .le off, 3)) (ha : inI a) (hb : inI b) (kt : a ≤ b → AW K X own cc nL ret dep tgt ls st h) (kf : ¬ (a ≤ b) → AW K X own cc nL ret dep pc' ls st h) (ht : (pc : Int) + off = (tgt : Int) := by decide) (hp : pc + 3 = pc' := by rfl) : AW K X own cc nL ret dep pc ls (vI b :: vI a :: st) h := by
  subst hp
  intro p e R s m args below meth c H locs lsA C Wx q
  simp only [List.map, cv]
  exact lv_icmp_le C.1 C.2.1 hd ht (fun z => kt ((i32le ha hb).mp z) p e R s m args below meth c H locs lsA C Wx q) (fun z => kf (fun y => z ((i32le ha hb).mpr y)) p e R s m args below meth c H locs lsA C Wx q)
theorem inI_0 : inI 0 := by unfold inI; omega
theorem AW.if_eq {a : Int} {off : Int} {tgt : Nat} (hd : decode cc pc = .ok (.ifCond .eq off, 3)) (ha : inI a) (kt : a = 0 → AW K X own cc nL ret dep tgt ls st h) (kf : ¬ (a = 0) → AW K X own cc nL ret dep pc' ls st h) (ht : (pc : Int) + off = (tgt : Int) := by decide) (hp : pc + 3 = pc' := by rfl) : AW K X own cc nL ret dep pc ls (vI a :: st) h := by
  subst hp
  intro p e R s m args below meth c H locs lsA C Wx q
  simp only [List.map, cv]
  exact lv_if_eq C.1 C.2.1 hd ht (fun z => kt ((i32eq ha inI_0).mp z) p e R s m args below meth c H locs lsA C Wx q) (fun z => kf (fun y => z ((i32eq ha inI_0).mpr y)) p e R s m args below meth c H locs lsA C Wx q)
theorem AW.if_ne {a : Int} {off : Int} {tgt : Nat} (hd : decode cc pc = .ok (.ifCond .ne off, 3)) (ha : inI a) (kt : a ≠ 0 → AW K X own cc nL ret dep tgt ls st h) (kf : a = 0 → AW K X own cc nL ret dep pc' ls st h) (ht : (pc : Int) + off = (tgt : Int) := by decide) (hp : pc + 3 = pc' := by rfl) : AW K X own cc nL ret dep pc ls (vI a :: st) h := by
  subst hp
  intro p e R s m args below meth c H locs lsA C Wx q
  simp only [List.map, cv]
  exact lv_if_ne C.1 C.2.1 hd ht (fun z => kt (fun y => z ((i32eq ha inI_0).mpr y)) p e R s m args below meth c H locs lsA C Wx q) (fun z => kf ((i32eq ha inI_0).mp z) p e R s m args below meth c H locs lsA C Wx q)
theorem AW.if_lt {a : Int} {off : Int} {tgt : Nat} (hd : decode cc pc = .ok (.ifCond .lt off, 3)) (ha : inI a) (kt : a < 0 → AW K X own cc nL ret dep tgt ls st h) (kf : ¬ (a < 0) → AW K X own cc nL ret dep pc' ls st h) (ht : (pc : Int) + off = (tgt : Int) := by decide) (hp : pc + 3 = pc' := by rfl) : AW K X own cc nL ret dep pc ls (vI a :: st) h := by
  subst hp
  intro p e R s m args below meth c H locs lsA C Wx q
  simp only [List.map, cv]
  exact lv_if_lt C.1 C.2.1 hd ht (fun z => kt ((i32lt ha inI_0).mp z) p e R s m args below meth c H locs lsA C Wx q) (fun z => kf (fun y => z ((i32lt ha inI_0).mpr y)) p e R s m args below meth c H locs lsA C Wx q)
theorem AW.if_ge {a : Int} {off : Int} {tgt : Nat} (hd : decode cc pc = .ok (.ifCond .ge off, 3)) (ha : inI a) (kt : 0 ≤ a → AW K X own cc nL ret dep tgt ls st h) (kf : ¬ (0 ≤ a) → AW K X own cc nL ret dep pc' ls st h) (ht : (pc : Int) + off = (tgt : Int) := by decide) (hp : pc + 3 = pc' := by rfl) : AW K X own cc nL ret dep pc ls (vI a :: st) h := by
  subst hp
  intro p e R s m args below meth c H locs lsA C Wx q
  simp only [List.map, cv]
  exact lv_if_ge C.1 C.2.1 hd ht (fun z => kt ((i32le inI_0 ha).mp z) p e R s m args below meth c H locs lsA C Wx q) (fun z => kf (fun y => z ((i32le inI_0 ha).mpr y)) p e R s m args below meth c H locs lsA C Wx q)
theorem AW.if_gt {a : Int} {off : Int} {tgt : Nat} (hd : decode cc pc = .ok (.ifCond .gt off, 3)) (ha : inI a) (kt : 0 < a → AW K X own cc nL ret dep tgt ls st h) (kf : ¬ (0 < a) → AW K X own cc nL ret dep pc' ls st h) (ht : (pc : Int) + off = (tgt : Int) := by decide) (hp : pc + 3 = pc' := by rfl) : AW K X own cc nL ret dep pc ls (vI a :: st) h := by
  subst hp
  intro p e R s m args below meth c H locs lsA C Wx q
  simp only [List.map, cv]
  exact lv_if_gt C.1 C.2.1 hd ht (fun z => kt ((i32lt inI_0 ha).mp z) p e R s m args below meth c H locs lsA C Wx q) (fun z => kf (fun y => z ((i32lt inI_0 ha).mpr y)) p e R s m args below meth c H locs lsA C Wx q)
theorem AW.if_le {a : Int} {off : Int} {tgt : Nat} (hd : decode cc pc = .ok (.ifCond .le off, 3)) (ha : inI a) (kt : a ≤ 0 → AW K X own cc nL ret dep tgt ls st h) (kf : ¬ (a ≤ 0) → AW K X own cc nL ret dep pc' ls st h) (ht : (pc : Int) + off = (tgt : Int) := by decide) (hp : pc + 3 = pc' := by rfl) : AW K X own cc nL ret dep pc ls (vI a :: st) h := by
  subst hp
  intro p e R s m args below meth c H locs lsA C Wx q
  simp only [List.map, cv]
  exact lv_if_le C.1 C.2.1 hd ht (fun z => kt ((i32le ha inI_0).mp z) p e R s m args below meth c H locs lsA C Wx q) (fun z => kf (fun y => z ((i32le ha inI_0).mpr y)) p e R s m args below meth c H locs lsA C Wx q)
theorem AW.goto {off : Int} {tgt : Nat} (hd : decode cc pc = .ok (.goto off, 3)) (k : AW K X own cc nL ret dep tgt ls st h) (ht : (pc : Int) + off = (tgt : Int) := by decide) : AW K X own cc nL ret dep pc ls st h := by
  intro p e R s m args below meth c H locs lsA C Wx q
  exact lv_goto C.1 C.2.1 hd ht (k p e R s m args below meth c H locs lsA C Wx q)
/-- truth as a number -/
def b2 (P : Prop) [Decidable P] : Int := if P then 1 else 0
theorem b2_t {P : Prop} [Decidable P] (h : P) : b2 P = 1 := if_pos h
theorem b2_f {P : Prop} [Decidable P] (h : ¬ P) : b2 P = 0 := if_neg h
theorem b2_in (P : Prop) [Decidable P] : inI (b2 P) := by unfold b2 inI; split <;> omega
theorem b2_eq0 {P : Prop} [Decidable P] : b2 P = 0 ↔ ¬ P := by unfold b2; split <;> simp_all
theorem AW.ifb_eq {P : Prop} [Decidable P] {off : Int} {tgt : Nat} (hd : decode cc pc = .ok (.ifCond .eq off, 3)) (kt : ¬ P → AW K X own cc nL ret dep tgt ls st h) (kf : P → AW K X own cc nL ret dep pc' ls st h) (ht : (pc : Int) + off = (tgt : Int) := by decide) (hp : pc + 3 = pc' := by rfl) : AW K X own cc nL ret dep pc ls (vI (b2 P) :: st) h :=
  AW.if_eq hd (b2_in P) (fun z => kt (b2_eq0.mp z)) (fun z => kf (Decidable.of_not_not fun y => z (b2_eq0.mpr y))) ht hp
theorem AW.ifb_ne {P : Prop} [Decidable P] {off : Int} {tgt : Nat} (hd : decode cc pc = .ok (.ifCond .ne off, 3)) (kt : P → AW K X own cc nL ret dep tgt ls st h) (kf : ¬ P → AW K X own cc nL ret dep pc' ls st h) (ht : (pc : Int) + off = (tgt : Int) := by decide) (hp : pc + 3 = pc' := by rfl) : AW K X own cc nL ret dep pc ls (vI (b2 P) :: st) h :=
  AW.if_ne hd (b2_in P) (fun z => kt (Decidable.of_not_not fun y => z (b2_eq0.mpr y))) (fun z => kf (b2_eq0.mp z)) ht hp
theorem AW.tableIn {dflt lo hi : Int} {offs : Array Int} {len : Nat} {x off : Int} {tgt : Nat} (hd : decode cc pc = .ok (.tableswitch dflt lo hi offs, len)) (hx : inI x) (h1 : ¬ x < lo) (h2 : ¬ hi < x) (ho : offs[(x - lo).toNat]? = some off) (k : AW K X own cc nL ret dep tgt ls st h) (ht : (pc : Int) + off = (tgt : Int) := by decide) : AW K X own cc nL ret dep pc ls (vI x :: st) h := by
  intro p e R s m args below meth c H locs lsA C Wx q
  simp only [List.map, cv]
  have e' := i32of hx
  exact lv_tableIn C.1 C.2.1 hd (by rw [e']; exact h1) (by rw [e']; exact h2) (by rw [e']; exact ho) ht (k p e R s m args below meth c H locs lsA C Wx q)
theorem AW.tableOut {dflt lo hi : Int} {offs : Array Int} {len : Nat} {x : Int} {tgt : Nat} (hd : decode cc pc = .ok (.tableswitch dflt lo hi offs, len)) (hx : inI x) (h1 : x < lo ∨ hi < x) (k : AW K X own cc nL ret dep tgt ls st h) (ht : (pc : Int) + dflt = (tgt : Int) := by decide) : AW K X own cc nL ret dep pc ls (vI x :: st) h := by
  intro p e R s m args below meth c H locs lsA C Wx q
  simp only [List.map, cv]
  have e' := i32of hx
  exact lv_tableOut C.1 C.2.1 hd (by rw [e']; exact h1) ht (k p e R s m args below meth c H locs lsA C Wx q)
theorem AW.lookup {dflt : Int} {ps : Array (Int × Int)} {len : Nat} {x off : Int} {tgt : Nat} (hd : decode cc pc = .ok (.lookupswitch dflt ps, len)) (hx : inI x) (hps : (ps.toList.zip (ps.toList.drop 1)).all (fun (a, next) => a.1 < next.1) = true) (ho : Op.lookupswitch.offset ps.toList dflt x = off) (k : AW K X own cc nL ret dep tgt ls st h) (ht : (pc : Int) + off = (tgt : Int)) : AW K X own cc nL ret dep pc ls (vI x :: st) h := by
  intro p e R s m args below meth c H locs lsA C Wx q
  simp only [List.map, cv]
  have e' := i32of hx
  exact lv_lookup C.1 C.2.1 hd hps (by rw [e']; exact ho) ht (k p e R s m args below meth c H locs lsA C Wx q)
/-- the order of two longs as a number -/
def cmpI (a b : Int) : Int := if b < a then 1 else if a = b then 0 else -1
theorem cmpI_in (a b : Int) : inI (cmpI a b) := by unfold cmpI inI; split <;> (try split) <;> omega
theorem lg_cmpI {a b : Int} (ha : inL a) (hb : inL b) : lg_cmp (Int64.ofInt a) (Int64.ofInt b) = Int32.ofInt (cmpI a b) := by
  unfold lg_cmp cmpI
  simp only [gt_iff_lt, Int64.lt_iff_toInt_lt, ← Int64.toInt_inj, i64of ha, i64of hb]
  split
  · rfl
  · split <;> rfl
theorem AW.lcmp {a b : Int} (hd : decode cc pc = .ok (.lcmp, 1)) (ha : inL a) (hb : inL b) (k : AW K X own cc nL ret dep pc' ls (vI (cmpI a b) :: st) h) (hp : pc + 1 = pc' := by rfl) : AW K X own cc nL ret dep pc ls (vL b :: vL a :: st) h := by
  subst hp
  intro p e R s m args below meth c H locs lsA C Wx q
  have w := k p e R s m args below meth c H locs lsA C Wx q
  simp only [List.map, cv] at w ⊢
  rw [← lg_cmpI ha hb] at w
  exact W.lcmp C.1 C.2.1 hd w
theorem AW.ldc {n : Nat} {v : Int} (hd : decode cc pc = .ok (.ldc n, 2)) (hc : Cond.constant own n (Int32.ofInt v) ∈ wsL_law) (k : AW K X own cc nL ret dep pc' ls (vI v :: st) h) (hp : pc + 2 = pc' := by rfl) : AW K X own cc nL ret dep pc ls st h := by
  subst hp
  intro p e R s m args below meth c H locs lsA C Wx q
  obtain ⟨hx, hb, hr, hml, hown, hts, -⟩ := id C
  exact lv_ldc hx hb hown (hts _ hc) hd (k p e R s m args below meth c H locs lsA C Wx q)
theorem AW.ldc2 {n : Nat} {v : Int} (hd : decode cc pc = .ok (.ldc2_w n, 3)) (hc : Cond.constantLong own n (Int64.ofInt v) ∈ wsL_law) (k : AW K X own cc nL ret dep pc' ls (vL v :: st) h) (hp : pc + 3 = pc' := by rfl) : AW K X own cc nL ret dep pc ls st h := by
  subst hp
  intro p e R s m args below meth c H locs lsA C Wx q
  obtain ⟨hx, hb, hr, hml, hown, hts, -⟩ := id C
  exact lv_ldc2 hx hb hown (hts _ hc) hd (k p e R s m args below meth c H locs lsA C Wx q)
/-- a field's words: class ci of vwCl, slot j, as the pool entry idx of own names it -/
def FLD (own : String) (idx ci j : Nat) : Prop := ∃ (C : String) (T : u_T) (N : Nat), vwCl[ci]? = some (C, T, N) ∧ j < N ∧ Cond.fieldLink own idx C (T j).2.1 (T j).2.2.1 ∈ wsL_law ∧ (T j).1 = C ∧ ∀ w ∈ u_ws C T N, w ∈ wsL_law
def FLP (own : String) (idx ci j : Nat) (ty : FieldType) : Prop := ∃ (C : String) (T : u_T) (N : Nat) (ty0 : Nat → FieldType), vwCl[ci]? = some (C, T, N) ∧ j < N ∧ Cond.fieldLink own idx C (T j).2.1 (T j).2.2.1 ∈ wsL_law ∧ (T j).1 = C ∧ (∀ w ∈ u_ws C T N, w ∈ wsL_law) ∧ (∀ k, k < N → parseFieldDescriptor (T k).2.2.1 = some (ty0 k)) ∧ (∀ a, a < N → ∀ b, b < N → a ≠ b → (T a).2.1 ≠ (T b).2.1) ∧ (T j).2.2.2 = false ∧ parseFieldDescriptor (T j).2.2.1 = some ty
theorem AW.get0 {k ci j idx sk : Nat} {sl : List Nat} (hd : decode cc pc = .ok (.getfield idx, 3)) (hk : LY[k]? = some (0, ci, sl)) (hf : FLD own idx ci j) (hs : sl[j]? = some sk) {v : AV} (hv : HOK h → cv K.2.2.1 v = sv K.2.2.1 sk (h k j)) (kk : HOK h → AW K X own cc nL ret dep pc' ls (v :: st) h) (hp : pc + 3 = pc' := by rfl) : AW K X own cc nL ret dep pc ls (vR k :: st) h := by
  subst hp
  intro p e R s m args below meth c H locs lsA C Wx q
  obtain ⟨hx, hb, hr, hml, hown, hts, hlk, h1, h2, h3, h4, hD, hA, hK, hS⟩ := id C
  obtain ⟨CC, T, N, f1, f2, f3, f4, f5⟩ := hf
  have w := kk Wx.2.2 p e R s m args below meth c H locs lsA C Wx q
  simp only [List.map, cv] at w ⊢
  refine va_get (D := K.2.1) (cl := vwCl) (ws := wld K h) (ci := ci) (C := CC) (T := T) (N := N) hx hb hts f5 hown hK Wx.1 k (wld_at hk) f1 j f2 (ref := CC) (hts _ f3) (fun _ z => by rw [f4] at z; exact z) (v := cv K.2.2.1 v) ?_ hd w
  rw [List.getElem?_mapIdx, hs, hv Wx.2.2]
  rfl
theorem AW.getI {k ci j idx : Nat} {sl : List Nat} (hd : decode cc pc = .ok (.getfield idx, 3)) (hk : LY[k]? = some (0, ci, sl)) (hf : FLD own idx ci j) (hs : sl[j]? = some 0) (kk : inI (h k j) → AW K X own cc nL ret dep pc' ls (vI (h k j) :: st) h) (hp : pc + 3 = pc' := by rfl) : AW K X own cc nL ret dep pc ls (vR k :: st) h :=
  AW.get0 hd hk hf hs (v := vI (h k j)) (fun _ => rfl) (fun z => kk (z.int hk hs)) hp
theorem AW.getL {k ci j idx : Nat} {sl : List Nat} (hd : decode cc pc = .ok (.getfield idx, 3)) (hk : LY[k]? = some (0, ci, sl)) (hf : FLD own idx ci j) (hs : sl[j]? = some 1) (kk : inL (h k j) → AW K X own cc nL ret dep pc' ls (vL (h k j) :: st) h) (hp : pc + 3 = pc' := by rfl) : AW K X own cc nL ret dep pc ls (vR k :: st) h :=
  AW.get0 hd hk hf hs (v := vL (h k j)) (fun _ => rfl) (fun z => kk (z.long hk hs)) hp
theorem AW.getM {k ci j idx : Nat} {sl : List Nat} (hd : decode cc pc = .ok (.getfield idx, 3)) (hk : LY[k]? = some (0, ci, sl)) (hf : FLD own idx ci j) (hs : sl[j]? = some 2) (kk : AW K X own cc nL ret dep pc' ls (vR (h k j).toNat :: st) h) (hp : pc + 3 = pc' := by rfl) : AW K X own cc nL ret dep pc ls (vR k :: st) h :=
  AW.get0 hd hk hf hs (v := vR (h k j).toNat) (fun _ => rfl) (fun _ => kk) hp
theorem AW.getR {k ci j idx t : Nat} {sl : List Nat} (hd : decode cc pc = .ok (.getfield idx, 3)) (hk : LY[k]? = some (0, ci, sl)) (hf : FLD own idx ci j) (hs : sl[j]? = some (t + 3)) (kk : AW K X own cc nL ret dep pc' ls (vR t :: st) h) (hp : pc + 3 = pc' := by rfl) : AW K X own cc nL ret dep pc ls (vR k :: st) h :=
  AW.get0 hd hk hf hs (v := vR t) (fun _ => rfl) (fun _ => kk) hp
theorem AW.put0 {k ci j idx sk : Nat} {sl : List Nat} {ty : FieldType} {v : AV} {z : Int} (hd : decode cc pc = .ok (.putfield idx, 3)) (hk : LY[k]? = some (0, ci, sl)) (hf : FLP own idx ci j ty) (hs : sl[j]? = some sk) (hv : cv K.2.2.1 v = sv K.2.2.1 sk z) (hn : narrow ty (cv K.2.2.1 v) = cv K.2.2.1 v) (hfit : fits ty (cv K.2.2.1 v) = true) (hok : okr (0, ci, sl) j z) (kk : AW K X own cc nL ret dep pc' ls st (hset h k j z)) (hp : pc + 3 = pc' := by rfl) : AW K X own cc nL ret dep pc ls (v :: vR k :: st) h := by
  subst hp
  intro p e R s m args below meth c H locs lsA C Wx q
  obtain ⟨hx, hb, hr, hml, hown, hts, hlk, h1, h2, h3, h4, hD, hA, hK, hS⟩ := id C
  obtain ⟨CC, T, N, ty0, f1, f2, f3, f4, f5, f6, f7, f8, f9⟩ := hf
  simp only [List.map]
  refine va_put (D := K.2.1) (cl := vwCl) (ws := wld K h) (ci := ci) (C := CC) (T := T) (N := N) hx hb hts f5 ty0 f6 f7 hown hK Wx.1 (wld_D hD (X.1 s) hA h) Wx.2.1 k (wld_at hk) f1 j f2 (ref := CC) (hts _ f3) (fun _ z => by rw [f4] at z; exact z) f8 (ty := ty) f9 hn hfit ?_ hd (fun H1 locs1 hP1 _ hS1 => ?_)
  · have := (List.getElem?_eq_some_iff.mp hs).1
    simpa using this
  · rw [wld_set (h' := hset h k j z) hk (mkE_slot hs hv) hset_other] at hP1
    exact kk p e R s m args below meth c H1 locs1 lsA C ⟨hP1, hS1, Wx.2.2.set hk hok⟩ q
theorem AW.putI {k ci j idx : Nat} {sl : List Nat} {a : Int} (hd : decode cc pc = .ok (.putfield idx, 3)) (hk : LY[k]? = some (0, ci, sl)) (hf : FLP own idx ci j .int) (hs : sl[j]? = some 0) (ha : inI a) (kk : AW K X own cc nL ret dep pc' ls st (hset h k j a)) (hp : pc + 3 = pc' := by rfl) : AW K X own cc nL ret dep pc ls (vI a :: vR k :: st) h :=
  AW.put0 hd hk hf hs rfl rfl rfl (by simp only [okr, hs]; exact ha) kk hp
theorem AW.putZ {k ci j idx : Nat} {sl : List Nat} {a : Int} (hd : decode cc pc = .ok (.putfield idx, 3)) (hk : LY[k]? = some (0, ci, sl)) (hf : FLP own idx ci j .boolean) (hs : sl[j]? = some 0) (ha : a = 0 ∨ a = 1) (kk : AW K X own cc nL ret dep pc' ls st (hset h k j a)) (hp : pc + 3 = pc' := by rfl) : AW K X own cc nL ret dep pc ls (vI a :: vR k :: st) h :=
  AW.put0 hd hk hf hs rfl (by rcases ha with rfl | rfl <;> rfl) (by rcases ha with rfl | rfl <;> rfl) (by simp only [okr, hs]; rcases ha with rfl | rfl <;> (unfold inI; omega)) kk hp
theorem AW.putL {k ci j idx : Nat} {sl : List Nat} {a : Int} (hd : decode cc pc = .ok (.putfield idx, 3)) (hk : LY[k]? = some (0, ci, sl)) (hf : FLP own idx ci j .long) (hs : sl[j]? = some 1) (ha : inL a) (kk : AW K X own cc nL ret dep pc' ls st (hset h k j a)) (hp : pc + 3 = pc' := by rfl) : AW K X own cc nL ret dep pc ls (vL a :: vR k :: st) h :=
  AW.put0 hd hk hf hs rfl rfl rfl (by simp only [okr, hs]; exact ha) kk hp
theorem AW.putR {k ci j idx t : Nat} {sl : List Nat} {ty : FieldType} (hd : decode cc pc = .ok (.putfield idx, 3)) (hk : LY[k]? = some (0, ci, sl)) (hf : FLP own idx ci j (.array ty)) (hs : sl[j]? = some 2) (kk : AW K X own cc nL ret dep pc' ls st (hset h k j (t : Int))) (hp : pc + 3 = pc' := by rfl) : AW K X own cc nL ret dep pc ls (vR t :: vR k :: st) h :=
  AW.put0 (z := (t : Int)) hd hk hf hs rfl rfl rfl (by simp only [okr, hs]) kk hp

theorem vin {i : Int} {n : Nat} (h0 : 0 ≤ i) (h1 : i < n) (hn : n ≤ 2147483647) : vp_in (Int32.ofInt i) n ∧ (Int32.ofInt i).toNatClampNeg = i.toNat := by
  have hi : inI i := by unfold inI; omega
  have e : (Int32.ofInt i).toNatClampNeg = i.toNat := by
    show (Int32.ofInt i).toInt.toNat = i.toNat
    rw [i32of hi]
  refine ⟨?_, e⟩
  rintro (z | z)
  · have := (i32lt hi inI_0).mp z
    omega
  · rw [e] at z
    omega
theorem AW.iald {k n : Nat} {tl : List Nat} {i : Int} (hd : decode cc pc = .ok (.iaload, 1)) (hk : LY[k]? = some (1, n, tl)) (h0 : 0 ≤ i) (h1 : i < n) (hn : n ≤ 2147483647) (kk : inI (h k i.toNat) → AW K X own cc nL ret dep pc' ls (vI (h k i.toNat) :: st) h) (hp : pc + 1 = pc' := by rfl) : AW K X own cc nL ret dep pc ls (vI i :: vR k :: st) h := by
  subst hp
  intro p e R s m args below meth c H locs lsA C Wx q
  obtain ⟨hx, hb, hr, hml, hown, hts, hlk, g1, g2, g3, g4, hD, hA, hK, hS⟩ := id C
  have w := kk (Wx.2.2.ints hk _) p e R s m args below meth c H locs lsA C Wx q
  simp only [List.map, cv] at w ⊢
  obtain ⟨v1, v2⟩ := vin h0 h1 hn
  refine va_iald (D := K.2.1) (cl := vwCl) (ws := wld K h) hx hb hK Wx.1 k 0 (wld_at hk) rfl v1 hd ?_
  rw [v2]
  exact w
theorem AW.bald {k n : Nat} {tl : List Nat} {i : Int} (hd : decode cc pc = .ok (.baload, 1)) (hk : LY[k]? = some (2, n, tl)) (h0 : 0 ≤ i) (h1 : i < n) (hn : n ≤ 2147483647) (kk : inB (h k i.toNat) → AW K X own cc nL ret dep pc' ls (vI (h k i.toNat) :: st) h) (hp : pc + 1 = pc' := by rfl) : AW K X own cc nL ret dep pc ls (vI i :: vR k :: st) h := by
  subst hp
  intro p e R s m args below meth c H locs lsA C Wx q
  obtain ⟨hx, hb, hr, hml, hown, hts, hlk, g1, g2, g3, g4, hD, hA, hK, hS⟩ := id C
  have w := kk (Wx.2.2.bytes hk _) p e R s m args below meth c H locs lsA C Wx q
  simp only [List.map, cv] at w ⊢
  obtain ⟨v1, v2⟩ := vin h0 h1 hn
  refine va_bald (D := K.2.1) (cl := vwCl) (ws := wld K h) hx hb hK Wx.1 k 1 (wld_at hk) rfl v1 hd ?_
  rw [v2]
  exact w
theorem AW.lald {k n : Nat} {tl : List Nat} {i : Int} (hd : decode cc pc = .ok (.laload, 1)) (hk : LY[k]? = some (3, n, tl)) (h0 : 0 ≤ i) (h1 : i < n) (hn : n ≤ 2147483647) (kk : inL (h k i.toNat) → AW K X own cc nL ret dep pc' ls (vL (h k i.toNat) :: st) h) (hp : pc + 1 = pc' := by rfl) : AW K X own cc nL ret dep pc ls (vI i :: vR k :: st) h := by
  subst hp
  intro p e R s m args below meth c H locs lsA C Wx q
  obtain ⟨hx, hb, hr, hml, hown, hts, hlk, g1, g2, g3, g4, hD, hA, hK, hS⟩ := id C
  have w := kk (Wx.2.2.longs hk _) p e R s m args below meth c H locs lsA C Wx q
  simp only [List.map, cv] at w ⊢
  obtain ⟨v1, v2⟩ := vin h0 h1 hn
  refine va_lald (D := K.2.1) (cl := vwCl) (ws := wld K h) hx hb hK Wx.1 k 2 (wld_at hk) rfl v1 hd ?_
  rw [v2]
  exact w
theorem upd_row {h : Hp} {k j : Nat} {v : Int} : upd (fun a => Int32.ofInt (h k a)) j (Int32.ofInt v) = fun a => Int32.ofInt (hset h k j v k a) := by
  funext a
  unfold upd hset
  by_cases e : a = j <;> simp [e]
theorem updL_row {h : Hp} {k j : Nat} {v : Int} : vp_updL (fun a => Int64.ofInt (h k a)) j (Int64.ofInt v) = fun a => Int64.ofInt (hset h k j v k a) := by
  funext a
  unfold vp_updL hset
  by_cases e : a = j <;> simp [e]
theorem AW.iast {k n : Nat} {tl : List Nat} {i a : Int} (hd : decode cc pc = .ok (.iastore, 1)) (hk : LY[k]? = some (1, n, tl)) (h0 : 0 ≤ i) (h1 : i < n) (hn : n ≤ 2147483647) (ha : inI a) (kk : AW K X own cc nL ret dep pc' ls st (hset h k i.toNat a)) (hp : pc + 1 = pc' := by rfl) : AW K X own cc nL ret dep pc ls (vI a :: vI i :: vR k :: st) h := by
  subst hp
  intro p e R s m args below meth c H locs lsA C Wx q
  obtain ⟨hx, hb, hr, hml, hown, hts, hlk, g1, g2, g3, g4, hD, hA, hK, hS⟩ := id C
  simp only [List.map, cv]
  obtain ⟨v1, v2⟩ := vin h0 h1 hn
  refine va_iast (D := K.2.1) (cl := vwCl) (ws := wld K h) hx hb hK Wx.1 (wld_D hD (X.1 s) hA h) Wx.2.1 k 0 (wld_at hk) rfl v1 hd (fun H1 locs1 hP1 _ hS1 => ?_)
  rw [v2, upd_row, wld_set (K := K) (h' := hset h k i.toNat a) (e := Sum.inl (K.2.2.2 0, n, Sum.inl fun b => Int32.ofInt (hset h k i.toNat a k b))) hk rfl hset_other] at hP1
  exact kk p e R s m args below meth c H1 locs1 lsA C ⟨hP1, hS1, Wx.2.2.set hk ha⟩ q
theorem AW.last {k n : Nat} {tl : List Nat} {i a : Int} (hd : decode cc pc = .ok (.lastore, 1)) (hk : LY[k]? = some (3, n, tl)) (h0 : 0 ≤ i) (h1 : i < n) (hn : n ≤ 2147483647) (ha : inL a) (kk : AW K X own cc nL ret dep pc' ls st (hset h k i.toNat a)) (hp : pc + 1 = pc' := by rfl) : AW K X own cc nL ret dep pc ls (vL a :: vI i :: vR k :: st) h := by
  subst hp
  intro p e R s m args below meth c H locs lsA C Wx q
  obtain ⟨hx, hb, hr, hml, hown, hts, hlk, g1, g2, g3, g4, hD, hA, hK, hS⟩ := id C
  simp only [List.map, cv]
  obtain ⟨v1, v2⟩ := vin h0 h1 hn
  refine va_last (D := K.2.1) (cl := vwCl) (ws := wld K h) hx hb hK Wx.1 (wld_D hD (X.1 s) hA h) Wx.2.1 k 2 (wld_at hk) rfl v1 hd (fun H1 locs1 hP1 _ hS1 => ?_)
  rw [v2, updL_row, wld_set (K := K) (h' := hset h k i.toNat a) (e := Sum.inl (K.2.2.2 2, n, Sum.inr (Sum.inl fun b => Int64.ofInt (hset h k i.toNat a k b)))) hk rfl hset_other] at hP1
  exact kk p e R s m args below meth c H1 locs1 lsA C ⟨hP1, hS1, Wx.2.2.set hk ha⟩ q
theorem AW.bast {k n : Nat} {tl : List Nat} {i a : Int} (hd : decode cc pc = .ok (.bastore, 1)) (hk : LY[k]? = some (2, n, tl)) (h0 : 0 ≤ i) (h1 : i < n) (hn : n ≤ 2147483647) (ha : inB a) (kk : AW K X own cc nL ret dep pc' ls st (hset h k i.toNat a)) (hp : pc + 1 = pc' := by rfl) : AW K X own cc nL ret dep pc ls (vI a :: vI i :: vR k :: st) h := by
  subst hp
  intro p e R s m args below meth c H locs lsA C Wx q
  obtain ⟨hx, hb, hr, hml, hown, hts, hlk, g1, g2, g3, g4, hD, hA, hK, hS⟩ := id C
  simp only [List.map, cv]
  obtain ⟨v1, v2⟩ := vin h0 h1 hn
  have hnar : vp_nar .byte (Int32.ofInt a) = Int32.ofInt a := by
    show (Int32.ofInt a).toInt8.toInt32 = Int32.ofInt a
    apply Int32.toInt_inj.mp
    rw [Int8.toInt_toInt32, Int32.toInt_toInt8, i32of (by unfold inB at ha; unfold inI; omega)]
    unfold inB at ha
    exact Int.bmod_eq_of_le (by omega) (by omega)
  refine va_bast (D := K.2.1) (cl := vwCl) (ws := wld K h) hx hb hK Wx.1 (wld_D hD (X.1 s) hA h) Wx.2.1 k 1 (wld_at hk) rfl v1 hd (fun H1 locs1 hP1 _ hS1 => ?_)
  rw [v2, hnar, upd_row, wld_set (K := K) (h' := hset h k i.toNat a) (e := Sum.inl (K.2.2.2 1, n, Sum.inl fun b => Int32.ofInt (hset h k i.toNat a k b))) hk rfl hset_other] at hP1
  exact kk p e R s m args below meth c H1 locs1 lsA C ⟨hP1, hS1, Wx.2.2.set hk ha⟩ q
end AWR

