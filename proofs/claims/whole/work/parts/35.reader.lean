/-! laws: the class's reader -/
def wr (x : Int) : Int := (Int32.ofInt x).toInt
theorem wr_in (x : Int) : inI (wr x) := in32 _
theorem wr_of (x : Int) : Int32.ofInt x = Int32.ofInt (wr x) := by unfold wr; rw [Int32.ofInt_toInt]
theorem wr_id {x : Int} (h : inI x) : wr x = x := i32of h
/-- where the reader stands, where it failed -/
abbrev St : Type := Int × Int
abbrev PF : Type := St → Int × St
def LH (g : Hp) (s : St) : Hp := hset (hset g 26 8 s.1) 26 9 s.2
theorem LH_at (g : Hp) (s : St) : LH g s 26 8 = s.1 := by simp [LH, hset_app]
theorem LH_fault (g : Hp) (s : St) : LH g s 26 9 = s.2 := by simp [LH, hset_app]
theorem LH_slot (g : Hp) (s : St) {j : Nat} (h8 : j ≠ 8) (h9 : j ≠ 9) : LH g s 26 j = g 26 j := by simp [LH, hset_app, h8, h9]
theorem LH_6 (g : Hp) (s : St) : LH g s 26 6 = g 26 6 := LH_slot g s (by decide) (by decide)
theorem LH_7 (g : Hp) (s : St) : LH g s 26 7 = g 26 7 := LH_slot g s (by decide) (by decide)
theorem LH_row (g : Hp) (s : St) {k : Nat} (h : k ≠ 26) : LH g s k = g k := by funext j; simp [LH, hset_app, h]
theorem LH_pat (g : Hp) (s : St) (v : Int) : hset (LH g s) 26 8 v = LH g (v, s.2) := by
  funext a b
  simp only [LH, hset_app]
  by_cases h : a = 26 ∧ b = 8
  · obtain ⟨rfl, rfl⟩ := h
    simp
  · rw [if_neg h]
    by_cases h2 : a = 26 ∧ b = 9
    · rw [if_pos h2, if_pos h2]
    · rw [if_neg h2, if_neg h2, if_neg h, if_neg h]
theorem LH_pf (g : Hp) (s : St) (v : Int) : hset (LH g s) 26 9 v = LH g (s.1, v) := by
  funext a b
  simp only [LH, hset_app]
  by_cases h : a = 26 ∧ b = 9
  · rw [if_pos h, if_pos h]
  · rw [if_neg h, if_neg h, if_neg h]
/-- a byte as it is shown -/
def b255 (v : Int) : Int := (Int32.ofInt v &&& Int32.ofInt 255).toInt
theorem b255_all : ∀ i : Fin 256, 0 ≤ (Int32.ofInt ((i.val : Int) - 128) &&& Int32.ofInt 255).toInt ∧ (Int32.ofInt ((i.val : Int) - 128) &&& Int32.ofInt 255).toInt ≤ 255 := by decide +kernel
theorem b255_in {v : Int} (h : inB v) : 0 ≤ b255 v ∧ b255 v ≤ 255 := by
  have q := b255_all ⟨(v + 128).toNat, by unfold inB at h; omega⟩
  have e : ((v + 128).toNat : Int) - 128 = v := by unfold inB at h; omega
  simp only [e] at q
  exact q
/-- the sign that stands ahead; -1 none -/
def nx (T : Nat → Int) (E : Int) (s : St) : Int := if s.2 ≠ -1 ∨ E ≤ s.1 then -1 else b255 (T s.1.toNat)
def psF (T : Nat → Int) (E c : Int) (s : St) : St := if nx T E s = c then (s.1 + 1, s.2) else s
def flF (s : St) : St := if s.2 = -1 then (s.1, s.1) else s
def nuF (T : Nat → Int) (E : Int) : Nat → Int → St → Int × St
  | 0, v, s => (v, s)
  | n + 1, v, s => if 48 ≤ nx T E s ∧ nx T E s ≤ 57 then nuF T E n (10 * v + nx T E s - 48) (s.1 + 1, s.2) else (v, s)
def orL (T : Nat → Int) (E : Int) (b : PF) : Nat → Int → St → Int × St
  | 0, v, s => (v, s)
  | n + 1, v, s => if nx T E s = 124 then orL T E b n (b2 (v ≠ 0 ∨ (b (s.1 + 1, s.2)).1 ≠ 0)) (b (s.1 + 1, s.2)).2 else (v, s)
def anL (T : Nat → Int) (E : Int) (b : PF) : Nat → Int → St → Int × St
  | 0, v, s => (v, s)
  | n + 1, v, s => if nx T E s = 38 then anL T E b n (b2 (v ≠ 0 ∧ (b (s.1 + 1, s.2)).1 ≠ 0)) (b (s.1 + 1, s.2)).2 else (v, s)
def cmF (T : Nat → Int) (E : Int) (b : PF) : PF := fun s =>
  if nx T E (b s).2 = 60 then (b2 ((b s).1 < (b ((b s).2.1 + 1, (b s).2.2)).1), (b ((b s).2.1 + 1, (b s).2.2)).2)
  else if nx T E (b s).2 = 61 then (b2 ((b s).1 = (b ((b s).2.1 + 1, (b s).2.2)).1), (b ((b s).2.1 + 1, (b s).2.2)).2)
  else if nx T E (b s).2 = 62 then (b2 ((b ((b s).2.1 + 1, (b s).2.2)).1 < (b s).1), (b ((b s).2.1 + 1, (b s).2.2)).2)
  else b s
def smL (T : Nat → Int) (E : Int) (b : PF) : Nat → Int → St → Int × St
  | 0, v, s => (v, s)
  | n + 1, v, s => if nx T E s = 43 then smL T E b n (wr (v + (b (s.1 + 1, s.2)).1)) (b (s.1 + 1, s.2)).2
    else if nx T E s = 45 then smL T E b n (wr (v - (b (s.1 + 1, s.2)).1)) (b (s.1 + 1, s.2)).2 else (v, s)
def dvF (v w : Int) : Int := if w = 0 then 0 else wr (v.tdiv w)
def rmF (v w : Int) : Int := if w = 0 then 0 else wr (v.tmod w)
def pdL (T : Nat → Int) (E : Int) (b : PF) : Nat → Int → St → Int × St
  | 0, v, s => (v, s)
  | n + 1, v, s => if nx T E s = 42 then pdL T E b n (wr (v * (b (s.1 + 1, s.2)).1)) (b (s.1 + 1, s.2)).2
    else if nx T E s = 47 then pdL T E b n (dvF v (b (s.1 + 1, s.2)).1) (b (s.1 + 1, s.2)).2
    else if nx T E s = 37 then pdL T E b n (rmF v (b (s.1 + 1, s.2)).1) (b (s.1 + 1, s.2)).2 else (v, s)
def pdF (T : Nat → Int) (E : Int) (b : PF) : PF := fun s => pdL T E b 120 (b s).1 (b s).2
def smF2 (T : Nat → Int) (E : Int) (b : PF) : PF := fun s => smL T E (pdF T E b) 120 (pdF T E b s).1 (pdF T E b s).2
def cpF (T : Nat → Int) (E : Int) (b : PF) : PF := cmF T E (smF2 T E b)
def anF (T : Nat → Int) (E : Int) (b : PF) : PF := fun s => anL T E (cpF T E b) 120 (cpF T E b s).1 (cpF T E b s).2
def eiF (T : Nat → Int) (E : Int) (b : PF) : PF := fun s => orL T E (anF T E b) 120 (anF T E b s).1 (anF T E b s).2
/-- the place of a name, or -1 -/
def nmI (c : Int) : Int := if c = -1 then -1 else if 0 ≤ c ∧ c ≤ 255 then ixF (by8 c) 9 0 else -1
def sgB (T : Nat → Int) (E : Int) (V : Nat → Int) (r : Bool) (ei sg : PF) : PF := fun s =>
  if 48 ≤ nx T E s ∧ nx T E s ≤ 57 then nuF T E 4 0 s
  else if 0 ≤ nmI (nx T E s) then (V (nmI (nx T E s)).toNat, (s.1 + 1, s.2))
  else if r = true ∧ nx T E s = 40 then ((ei (s.1 + 1, s.2)).1, if nx T E (ei (s.1 + 1, s.2)).2 = 41 then ((ei (s.1 + 1, s.2)).2.1 + 1, (ei (s.1 + 1, s.2)).2.2) else flF (ei (s.1 + 1, s.2)).2)
  else if r = true ∧ nx T E s = 33 then (b2 ((sg (s.1 + 1, s.2)).1 = 0), (sg (s.1 + 1, s.2)).2)
  else if r = true ∧ nx T E s = 45 then (wr (-(sg (s.1 + 1, s.2)).1), (sg (s.1 + 1, s.2)).2)
  else (0, flF s)
def sgF (T : Nat → Int) (E : Int) (V : Nat → Int) : Nat → PF
  | 0 => sgB T E V false (fun s => (0, s)) (fun s => (0, s))
  | d + 1 => sgB T E V true (eiF T E (sgF T E V d)) (sgF T E V d)
/-- what holds of where the reader stands -/
def SI (E : Int) (s : St) : Prop := 0 ≤ s.1 ∧ s.1 ≤ E ∧ -1 ≤ s.2 ∧ s.2 ≤ E
def PK (E : Int) (b : PF) : Prop := ∀ s, SI E s → inI (b s).1 ∧ SI E (b s).2
theorem nx_lt {T : Nat → Int} {E c : Int} {s : St} (h : nx T E s = c) (hc : c ≠ -1) : s.1 < E ∧ s.2 = -1 := by
  unfold nx at h
  split at h
  · exact absurd h.symm hc
  · rename_i z
    omega
theorem SI.next {T : Nat → Int} {E c : Int} {s : St} (H : SI E s) (h : nx T E s = c) (hc : c ≠ -1) : SI E (s.1 + 1, s.2) := by
  have := nx_lt h hc
  obtain ⟨h1, h2, h3, h4⟩ := H
  exact ⟨by show 0 ≤ s.1 + 1; omega, by show s.1 + 1 ≤ E; omega, h3, h4⟩
theorem SI.fail {E : Int} {s : St} (H : SI E s) : SI E (flF s) := by
  obtain ⟨h1, h2, h3, h4⟩ := H
  unfold flF
  split
  · exact ⟨h1, h2, by show -1 ≤ s.1; omega, h2⟩
  · exact ⟨h1, h2, h3, h4⟩
theorem b2_inI (P : Prop) [Decidable P] : inI (b2 P) := b2_in P
theorem orL_K {T : Nat → Int} {E : Int} {b : PF} (hb : PK E b) : ∀ (n : Nat) (v : Int) (s : St), inI v → SI E s → inI (orL T E b n v s).1 ∧ SI E (orL T E b n v s).2
  | 0, v, s, hv, hs => ⟨hv, hs⟩
  | n + 1, v, s, hv, hs => by
    unfold orL
    split
    · rename_i z
      have q := hb _ (hs.next z (by decide))
      exact orL_K hb n _ _ (b2_in _) q.2
    · exact ⟨hv, hs⟩
theorem anL_K {T : Nat → Int} {E : Int} {b : PF} (hb : PK E b) : ∀ (n : Nat) (v : Int) (s : St), inI v → SI E s → inI (anL T E b n v s).1 ∧ SI E (anL T E b n v s).2
  | 0, v, s, hv, hs => ⟨hv, hs⟩
  | n + 1, v, s, hv, hs => by
    unfold anL
    split
    · rename_i z
      have q := hb _ (hs.next z (by decide))
      exact anL_K hb n _ _ (b2_in _) q.2
    · exact ⟨hv, hs⟩
theorem smL_K {T : Nat → Int} {E : Int} {b : PF} (hb : PK E b) : ∀ (n : Nat) (v : Int) (s : St), inI v → SI E s → inI (smL T E b n v s).1 ∧ SI E (smL T E b n v s).2
  | 0, v, s, hv, hs => ⟨hv, hs⟩
  | n + 1, v, s, hv, hs => by
    unfold smL
    split
    · rename_i z
      exact smL_K hb n _ _ (wr_in _) (hb _ (hs.next z (by decide))).2
    · split
      · rename_i z
        exact smL_K hb n _ _ (wr_in _) (hb _ (hs.next z (by decide))).2
      · exact ⟨hv, hs⟩
theorem dvF_in (v w : Int) : inI (dvF v w) := by unfold dvF; split; · decide
                                                 · exact wr_in _
theorem rmF_in (v w : Int) : inI (rmF v w) := by unfold rmF; split; · decide
                                                 · exact wr_in _
theorem pdL_K {T : Nat → Int} {E : Int} {b : PF} (hb : PK E b) : ∀ (n : Nat) (v : Int) (s : St), inI v → SI E s → inI (pdL T E b n v s).1 ∧ SI E (pdL T E b n v s).2
  | 0, v, s, hv, hs => ⟨hv, hs⟩
  | n + 1, v, s, hv, hs => by
    unfold pdL
    split
    · rename_i z
      exact pdL_K hb n _ _ (wr_in _) (hb _ (hs.next z (by decide))).2
    · split
      · rename_i z
        exact pdL_K hb n _ _ (dvF_in _ _) (hb _ (hs.next z (by decide))).2
      · split
        · rename_i z
          exact pdL_K hb n _ _ (rmF_in _ _) (hb _ (hs.next z (by decide))).2
        · exact ⟨hv, hs⟩
theorem pdF_K {T : Nat → Int} {E : Int} {b : PF} (hb : PK E b) : PK E (pdF T E b) := fun s hs => pdL_K hb 120 _ _ (hb s hs).1 (hb s hs).2
theorem smF2_K {T : Nat → Int} {E : Int} {b : PF} (hb : PK E b) : PK E (smF2 T E b) := fun s hs => smL_K (pdF_K hb) 120 _ _ (pdF_K hb s hs).1 (pdF_K hb s hs).2
theorem cmF_K {T : Nat → Int} {E : Int} {b : PF} (hb : PK E b) : PK E (cmF T E b) := fun s hs => by
  have q := hb s hs
  unfold cmF
  split
  · rename_i z
    exact ⟨b2_in _, (hb _ (q.2.next z (by decide))).2⟩
  · split
    · rename_i z
      exact ⟨b2_in _, (hb _ (q.2.next z (by decide))).2⟩
    · split
      · rename_i z
        exact ⟨b2_in _, (hb _ (q.2.next z (by decide))).2⟩
      · exact q
theorem cpF_K {T : Nat → Int} {E : Int} {b : PF} (hb : PK E b) : PK E (cpF T E b) := cmF_K (smF2_K hb)
theorem anF_K {T : Nat → Int} {E : Int} {b : PF} (hb : PK E b) : PK E (anF T E b) := fun s hs => anL_K (cpF_K hb) 120 _ _ (cpF_K hb s hs).1 (cpF_K hb s hs).2
theorem eiF_K {T : Nat → Int} {E : Int} {b : PF} (hb : PK E b) : PK E (eiF T E b) := fun s hs => orL_K (anF_K hb) 120 _ _ (anF_K hb s hs).1 (anF_K hb s hs).2
theorem nuF_K {T : Nat → Int} {E : Int} : ∀ (n : Nat) (v : Int) (s : St) (B : Int), 0 ≤ v → v ≤ B → B * 10 ^ n + 10 ^ n ≤ 100000 → 0 ≤ B → SI E s → (0 ≤ (nuF T E n v s).1 ∧ (nuF T E n v s).1 ≤ 100000) ∧ SI E (nuF T E n v s).2
  | 0, v, s, B, h0, h1, h2, h3, hs => ⟨⟨h0, by show v ≤ 100000; omega⟩, hs⟩
  | n + 1, v, s, B, h0, h1, h2, h3, hs => by
    unfold nuF
    have p : (0 : Int) < 10 ^ n := Int.pow_pos (by decide)
    have pe : (10 : Int) ^ (n + 1) = 10 ^ n * 10 := Int.pow_succ 10 n
    have m : B ≤ B * 10 ^ (n + 1) := by
      have := Int.mul_le_mul_of_nonneg_left (show (1 : Int) ≤ 10 ^ (n + 1) by omega) h3
      omega
    split
    · rename_i z
      have e : (10 * B + 9) * 10 ^ n + 10 ^ n = B * 10 ^ (n + 1) + 10 ^ (n + 1) := by
        rw [pe, Int.add_mul, ← Int.mul_assoc, Int.mul_right_comm 10 B, Int.mul_comm (10 * 10 ^ n) B, Int.mul_comm 10 (10 ^ n)]
        rw [← Int.mul_assoc B]
        omega
      exact nuF_K n _ _ (10 * B + 9) (by omega) (by omega) (by omega) (by omega) (hs.next (T := T) rfl (by omega))
    · exact ⟨⟨h0, by omega⟩, hs⟩
theorem nmI_in (c : Int) : nmI c = -1 ∨ 0 ≤ nmI c ∧ nmI c < 9 := by
  unfold nmI
  have := ixF_in (by8 c) 9 0
  (repeat' split) <;> omega
theorem nmI_no {c : Int} (h : 0 ≤ nmI c) : c ≠ -1 := fun z => by
  subst z
  have : nmI (-1) = -1 := rfl
  omega
theorem sgB_K {T : Nat → Int} {E : Int} {V : Nat → Int} {r : Bool} {ei sg : PF} (hV : ∀ j, inI (V j)) (he : PK E ei) (hg : PK E sg) : PK E (sgB T E V r ei sg) := fun s hs => by
  unfold sgB
  split
  · have q := nuF_K (T := T) 4 0 s 0 (by decide) (by decide) (by decide) (by decide) hs
    exact ⟨by constructor <;> omega, q.2⟩
  · split
    · rename_i z
      exact ⟨hV _, hs.next (T := T) rfl (nmI_no z)⟩
    · split
      · rename_i z
        have q := he _ (hs.next z.2 (by decide))
        refine ⟨q.1, ?_⟩
        show SI E (if _ then _ else _)
        split
        · rename_i y
          exact q.2.next y (by decide)
        · exact q.2.fail
      · split
        · rename_i z
          exact ⟨b2_in _, (hg _ (hs.next z.2 (by decide))).2⟩
        · split
          · rename_i z
            exact ⟨wr_in _, (hg _ (hs.next z.2 (by decide))).2⟩
          · exact ⟨inI_0, hs.fail⟩
theorem sgF_K {T : Nat → Int} {E : Int} {V : Nat → Int} (hV : ∀ j, inI (V j)) : ∀ d, PK E (sgF T E V d)
  | 0 => sgB_K hV (fun s hs => ⟨inI_0, hs⟩) (fun s hs => ⟨inI_0, hs⟩)
  | d + 1 => sgB_K hV (eiF_K (sgF_K hV d)) (sgF_K hV d)
