/-! one call of both: mend, undo, redo -/
theorem hset_row {h : Hp} {k j : Nat} {v : Int} : hset h k j v k = upR (h k) j v := funext fun i => by simp [hset_app, upR]
theorem tblX_le (w : Int) : tblX w ≤ 17 := by unfold tblX; (repeat' split) <;> omega
theorem tblX_ge (w : Int) : 8 ≤ tblX w := by unfold tblX; (repeat' split) <;> omega
theorem tblM_le (w : Int) : 63 ≤ tblM w ∧ tblM w ≤ 70 := by unfold tblM; (repeat' split) <;> omega
theorem gX_tbl (w : Int) (j : Nat) : gX (tblX w) j = 1 := by
  have a := tblX_le w
  have b := tblX_ge w
  unfold gX
  rw [if_neg (by omega), if_pos (by omega)]
theorem gM_tbl (w : Int) (j : Nat) : gM (tblM w) j = 1 := by
  have a := tblM_le w
  unfold gM
  rw [if_neg (by omega), if_pos (by omega)]
theorem RlB.tab {g h g' h' : Hp} {nu w v : Int} (R : RlB g h) (ok : okC (g 12 10) (g 6 3) nu w v) (e : ∀ k : Nat, k ≤ 19 → k ≠ tblX w → g' k = g k) (eo : g' (tblX w) = upR (g (tblX w)) nu.toNat v) (s : ∀ j : Nat, 13 ≤ j → j ≤ 16 → h' 57 j = h 57 j) (m : ∀ k : Nat, 58 ≤ k → k ≤ 70 → k ≠ tblM w → h' k = h k) (mo : h' (tblM w) = upR (h (tblM w)) nu.toNat v) : RlB g' h' := by
  obtain ⟨⟨a1, a2, a3, a4, a5⟩, ⟨b1, b2', b3, b4⟩, ⟨c1, c2⟩, ⟨d1, d2, d3, d4, d5, d6⟩, ix, k1, k2⟩ := R
  obtain ⟨i1, i2, i3, i4⟩ := ix
  rcases ok with ⟨hw, o1, o2, o3, o4⟩ | ⟨hw, o1, o2, o3, o4⟩ | ⟨hw, o1, o2, o3, o4⟩
  · rw [hw, show tblX 0 = 16 from rfl] at e eo
    rw [hw, show tblM 0 = 69 from rfl] at m mo
    have x1 := e 1 (by decide) (by decide)
    have x2 := e 2 (by decide) (by decide)
    have x3 := e 3 (by decide) (by decide)
    have x4 := e 4 (by decide) (by decide)
    have x5 := e 5 (by decide) (by decide)
    have x6 := e 6 (by decide) (by decide)
    have x7 := e 7 (by decide) (by decide)
    have x8 := e 8 (by decide) (by decide)
    have x9 := e 9 (by decide) (by decide)
    have x10 := e 10 (by decide) (by decide)
    have x11 := e 11 (by decide) (by decide)
    have x12 := e 12 (by decide) (by decide)
    have x13 := e 13 (by decide) (by decide)
    have x14 := e 14 (by decide) (by decide)
    have x15 := e 15 (by decide) (by decide)
    have x17 := e 17 (by decide) (by decide)
    have x18 := e 18 (by decide) (by decide)
    have x19 := e 19 (by decide) (by decide)
    have y58 := m 58 (by decide) (by decide) (by decide)
    have y59 := m 59 (by decide) (by decide) (by decide)
    have y60 := m 60 (by decide) (by decide) (by decide)
    have y61 := m 61 (by decide) (by decide) (by decide)
    have y62 := m 62 (by decide) (by decide) (by decide)
    have y63 := m 63 (by decide) (by decide) (by decide)
    have y64 := m 64 (by decide) (by decide) (by decide)
    have y65 := m 65 (by decide) (by decide) (by decide)
    have y66 := m 66 (by decide) (by decide) (by decide)
    have y67 := m 67 (by decide) (by decide) (by decide)
    have y68 := m 68 (by decide) (by decide) (by decide)
    have y70 := m 70 (by decide) (by decide) (by decide)
    have z13 := s 13 (by decide) (by decide)
    have z14 := s 14 (by decide) (by decide)
    have z15 := s 15 (by decide) (by decide)
    have z16 := s 16 (by decide) (by decide)
    unfold RlB IXa
    rw [x1, x2, x3, x4, x5, x6, x7, x8, x9, x10, x11, x12, x13, x14, x15, x17, x18, x19, eo, y58, y59, y60, y61, y62, y63, y64, y65, y66, y67, y68, y70, mo, z13, z14, z15, z16]
    refine ⟨⟨a1, a2, a3, a4, a5⟩, ⟨b1, b2', b3, b4⟩, ⟨c1, c2⟩, ⟨d1, d2, d3, d4, by rw [d5], d6⟩, ⟨i1, i2, i3, i4.1, i4.2.1, fun q hq => ?_⟩, k1, k2⟩
    have p := i4.2.2 q hq
    unfold upR
    by_cases u : q = nu.toNat
    · simp only [if_pos u]
      omega
    · simp only [if_neg u]
      exact p
  · rw [hw, show tblX 1 = 17 from rfl] at e eo
    rw [hw, show tblM 1 = 70 from rfl] at m mo
    have x1 := e 1 (by decide) (by decide)
    have x2 := e 2 (by decide) (by decide)
    have x3 := e 3 (by decide) (by decide)
    have x4 := e 4 (by decide) (by decide)
    have x5 := e 5 (by decide) (by decide)
    have x6 := e 6 (by decide) (by decide)
    have x7 := e 7 (by decide) (by decide)
    have x8 := e 8 (by decide) (by decide)
    have x9 := e 9 (by decide) (by decide)
    have x10 := e 10 (by decide) (by decide)
    have x11 := e 11 (by decide) (by decide)
    have x12 := e 12 (by decide) (by decide)
    have x13 := e 13 (by decide) (by decide)
    have x14 := e 14 (by decide) (by decide)
    have x15 := e 15 (by decide) (by decide)
    have x16 := e 16 (by decide) (by decide)
    have x18 := e 18 (by decide) (by decide)
    have x19 := e 19 (by decide) (by decide)
    have y58 := m 58 (by decide) (by decide) (by decide)
    have y59 := m 59 (by decide) (by decide) (by decide)
    have y60 := m 60 (by decide) (by decide) (by decide)
    have y61 := m 61 (by decide) (by decide) (by decide)
    have y62 := m 62 (by decide) (by decide) (by decide)
    have y63 := m 63 (by decide) (by decide) (by decide)
    have y64 := m 64 (by decide) (by decide) (by decide)
    have y65 := m 65 (by decide) (by decide) (by decide)
    have y66 := m 66 (by decide) (by decide) (by decide)
    have y67 := m 67 (by decide) (by decide) (by decide)
    have y68 := m 68 (by decide) (by decide) (by decide)
    have y69 := m 69 (by decide) (by decide) (by decide)
    have z13 := s 13 (by decide) (by decide)
    have z14 := s 14 (by decide) (by decide)
    have z15 := s 15 (by decide) (by decide)
    have z16 := s 16 (by decide) (by decide)
    unfold RlB IXa
    rw [x1, x2, x3, x4, x5, x6, x7, x8, x9, x10, x11, x12, x13, x14, x15, x16, x18, x19, eo, y58, y59, y60, y61, y62, y63, y64, y65, y66, y67, y68, y69, mo, z13, z14, z15, z16]
    refine ⟨⟨a1, a2, a3, a4, a5⟩, ⟨b1, b2', b3, b4⟩, ⟨c1, c2⟩, ⟨d1, d2, d3, d4, d5, by rw [d6]⟩, ⟨i1, i2, i3, i4.1, i4.2.1, fun q hq => ?_⟩, k1, k2⟩
    have p := i4.2.2 q hq
    unfold upR
    by_cases u : q = nu.toNat
    · simp only [if_pos u]
      omega
    · simp only [if_neg u]
      exact p
  · rw [hw, show tblX 2 = 8 from rfl] at e eo
    rw [hw, show tblM 2 = 63 from rfl] at m mo
    have x1 := e 1 (by decide) (by decide)
    have x2 := e 2 (by decide) (by decide)
    have x3 := e 3 (by decide) (by decide)
    have x4 := e 4 (by decide) (by decide)
    have x5 := e 5 (by decide) (by decide)
    have x6 := e 6 (by decide) (by decide)
    have x7 := e 7 (by decide) (by decide)
    have x9 := e 9 (by decide) (by decide)
    have x10 := e 10 (by decide) (by decide)
    have x11 := e 11 (by decide) (by decide)
    have x12 := e 12 (by decide) (by decide)
    have x13 := e 13 (by decide) (by decide)
    have x14 := e 14 (by decide) (by decide)
    have x15 := e 15 (by decide) (by decide)
    have x16 := e 16 (by decide) (by decide)
    have x17 := e 17 (by decide) (by decide)
    have x18 := e 18 (by decide) (by decide)
    have x19 := e 19 (by decide) (by decide)
    have y58 := m 58 (by decide) (by decide) (by decide)
    have y59 := m 59 (by decide) (by decide) (by decide)
    have y60 := m 60 (by decide) (by decide) (by decide)
    have y61 := m 61 (by decide) (by decide) (by decide)
    have y62 := m 62 (by decide) (by decide) (by decide)
    have y64 := m 64 (by decide) (by decide) (by decide)
    have y65 := m 65 (by decide) (by decide) (by decide)
    have y66 := m 66 (by decide) (by decide) (by decide)
    have y67 := m 67 (by decide) (by decide) (by decide)
    have y68 := m 68 (by decide) (by decide) (by decide)
    have y69 := m 69 (by decide) (by decide) (by decide)
    have y70 := m 70 (by decide) (by decide) (by decide)
    have z13 := s 13 (by decide) (by decide)
    have z14 := s 14 (by decide) (by decide)
    have z15 := s 15 (by decide) (by decide)
    have z16 := s 16 (by decide) (by decide)
    unfold RlB IXa
    rw [x1, x2, x3, x4, x5, x6, x7, x9, x10, x11, x12, x13, x14, x15, x16, x17, x18, x19, eo, y58, y59, y60, y61, y62, y64, y65, y66, y67, y68, y69, y70, mo, z13, z14, z15, z16]
    refine ⟨⟨a1, a2, a3, a4, a5⟩, ⟨b1, b2', by rw [b3], b4⟩, ⟨c1, c2⟩, ⟨d1, d2, d3, d4, d5, d6⟩, ⟨i1, ⟨i2.1, i2.2.1, fun q hq => ?_⟩, i3, i4⟩, k1, k2⟩
    have p := i2.2.2 q hq
    unfold upR
    by_cases u : q = nu.toNat
    · simp only [if_pos u]
      omega
    · simp only [if_neg u]
      exact p
theorem RlB.val {g h : Hp} (R : RlB g h) {nu w v : Int} (ok : okC (g 12 10) (g 6 3) nu w v) : okC (g 12 10) (g 6 3) nu w (g (tblX w) nu.toNat) ∧ g (tblX w) nu.toNat = h (tblM w) nu.toNat := by
  obtain ⟨-, ⟨b1, b2', b3, b4⟩, -, ⟨d1, d2, d3, d4, d5, d6⟩, ix, -⟩ := R
  obtain ⟨i1, i2, i3, i4⟩ := ix
  rcases ok with ⟨hw, o1, o2, o3, o4⟩ | ⟨hw, o1, o2, o3, o4⟩ | ⟨hw, o1, o2, o3, o4⟩
  · rw [hw, show tblX 0 = 16 from rfl, show tblM 0 = 69 from rfl]
    have p := i4.2.2 nu.toNat (by omega)
    exact ⟨Or.inl ⟨rfl, o1, o2, p.2.2.2.2.2.2.1, p.2.2.2.2.2.2.2.1⟩, by rw [d5]⟩
  · rw [hw, show tblX 1 = 17 from rfl, show tblM 1 = 70 from rfl]
    have p := i4.2.2 nu.toNat (by omega)
    exact ⟨Or.inr (Or.inl ⟨rfl, o1, o2, p.2.2.2.2.2.2.2.2.1, p.2.2.2.2.2.2.2.2.2⟩), by rw [d6]⟩
  · rw [hw, show tblX 2 = 8 from rfl, show tblM 2 = 63 from rfl]
    have p := i2.2.2 nu.toNat (by omega)
    exact ⟨Or.inr (Or.inr ⟨rfl, o1, o2, p.2.2.1, p.2.2.2.1⟩), by rw [b3]⟩
/-- the changes once room is made -/
def RlR (n ns : Int) (g h : Hp) : Prop := g 21 6 = h 57 22 ∧ 0 ≤ g 21 6 ∧ g 21 6 < 40 ∧ (g 22 = h 71 ∧ g 23 = h 72 ∧ g 24 = h 73 ∧ g 25 = h 74) ∧ PChg (g 21 6) n ns (g 22) (g 23) (g 24) (g 25)
theorem fg_row (row : Nat → Int) : (fun b : Nat => if 0 ≤ b ∧ b < 0 + 39 then row (1 + (b - 0)) else row b) = shR row 39 := funext fun j => by
  unfold shR
  by_cases z : j < 39
  · rw [if_pos (by omega), if_pos z]
    congr 1
    omega
  · rw [if_neg (by omega), if_neg z]
theorem fgX_rows (h : Hp) : fgX h 22 = shR (h 22) 39 ∧ fgX h 23 = shR (h 23) 39 ∧ fgX h 24 = shR (h 24) 39 ∧ fgX h 25 = shR (h 25) 39 ∧ (∀ k : Nat, k ≤ 20 → fgX h k = h k) := by
  refine ⟨?_, ?_, ?_, ?_, fun k hk => ?_⟩
  · rw [← fg_row]; funext j; simp [fgX, hcpy_app, hset_app]
  · rw [← fg_row]; funext j; simp [fgX, hcpy_app, hset_app]
  · rw [← fg_row]; funext j; simp [fgX, hcpy_app, hset_app]
  · rw [← fg_row]; funext j; simp [fgX, hcpy_app, hset_app]
  · unfold fgX
    rw [hcpy_other k (by omega), hcpy_other k (by omega), hcpy_other k (by omega), hcpy_other k (by omega), hset_other k (by omega)]
theorem fgX_t (h : Hp) : tX [1, 2, 9] h (fgX h) := by
  have q : ∀ k j : Nat, k < 21 ∨ 25 < k → fgX h k j = h k j := fun k j hk => by
    unfold fgX
    rw [hcpy_other k (by omega), hcpy_other k (by omega), hcpy_other k (by omega), hcpy_other k (by omega), hset_other k (by omega)]
  refine ⟨fun k hk => funext fun j => q k j (by omega), fun k j hk w => ?_⟩
  by_cases z : k < 21 ∨ 25 < k
  · exact q k j z
  · have e : gX k j = 2 := by
      unfold gX
      rw [if_neg (by omega), if_neg (by omega), if_neg (by omega), if_pos (by omega)]
    rw [e] at w
    exact absurd w (by decide)
theorem chX_t (g : Hp) (a b c d : Int) : tX [1, 2, 9] g (chX g a b c d) := ((((((tX.rf.st (by decide) rfl).st (by decide) rfl).st (by decide) rfl).st (by decide) rfl).st (by have := tblX_le b; omega) (by rw [gX_tbl]; rfl)).st (by decide) rfl).st (by decide) rfl
theorem chM_t (g : Hp) (a b v : Int) : tM [1, 2, 9] g (chM g a b v) := ((((((tM.rf.st (by decide) rfl).st (by decide) rfl).st (by decide) rfl).st (by decide) rfl).st (by decide) rfl).st (by decide) rfl).st (by have := (tblM_le b).1; omega) (by rw [gM_tbl]; rfl)
theorem FM_t {h g : Hp} (F : FM h g) : tM [1, 2, 9] h g := by
  obtain ⟨h2, S, e⟩ := F
  rw [e]
  exact (tM.ex S.1 (fun k hk => by
    simp only [List.mem_cons, List.not_mem_nil, or_false] at hk
    rcases hk with rfl | rfl | rfl | rfl <;> exact ⟨by decide, fun _ => rfl⟩)).st (by decide) rfl
/-- a change is kept: both -/
theorem Rl_change {G g : Hp} {a b v : Int} (R : RlB G g) (Q : RlR (G 12 10) (G 6 3) G g) (ok : okC (G 12 10) (G 6 3) a b v) : RlB (chX G a b (G (tblX b) a.toNat) v) (chM g a b v) ∧ RlC (chX G a b (G (tblX b) a.toNat) v 12 10) (chX G a b (G (tblX b) a.toNat) v 6 3) (chX G a b (G (tblX b) a.toNat) v) (chM g a b v) := by
  have l1 := tblX_le b
  have l0 := tblX_ge b
  have l2 := tblM_le b
  have val := R.val ok
  obtain ⟨q1, q2, q3, ⟨q4, q5, q6, q7⟩, q8⟩ := Q
  generalize hx : chX G a b (G (tblX b) a.toNat) v = x
  generalize hy : chM g a b v = y
  have xo : ∀ k : Nat, k ≤ 20 → k ≠ tblX b → x k = G k := fun k hk hn => by
    rw [← hx]
    unfold chX
    rw [hset_other k (by omega), hset_other k (by omega), hset_other k hn, hset_other k (by omega), hset_other k (by omega), hset_other k (by omega), hset_other k (by omega)]
  have xt : x (tblX b) = upR (G (tblX b)) a.toNat v := by
    rw [← hx]
    unfold chX
    rw [hset_other (tblX b) (by omega), hset_other (tblX b) (by omega), hset_row, hset_other (tblX b) (by omega), hset_other (tblX b) (by omega), hset_other (tblX b) (by omega), hset_other (tblX b) (by omega)]
  have x22 : x 22 = upR (G 22) (G 21 6).toNat a := by
    rw [← hx]
    unfold chX
    rw [hset_other 22 (by omega), hset_other 22 (by omega), hset_other 22 (by omega), hset_other 22 (by omega), hset_other 22 (by omega), hset_other 22 (by omega), hset_row]
  have x23 : x 23 = upR (G 23) (G 21 6).toNat b := by
    rw [← hx]
    unfold chX
    rw [hset_other 23 (by omega), hset_other 23 (by omega), hset_other 23 (by omega), hset_other 23 (by omega), hset_other 23 (by omega), hset_row, hset_other 23 (by omega)]
  have x24 : x 24 = upR (G 24) (G 21 6).toNat (G (tblX b) a.toNat) := by
    rw [← hx]
    unfold chX
    rw [hset_other 24 (by omega), hset_other 24 (by omega), hset_other 24 (by omega), hset_other 24 (by omega), hset_row, hset_other 24 (by omega), hset_other 24 (by omega)]
  have x25 : x 25 = upR (G 25) (G 21 6).toNat v := by
    rw [← hx]
    unfold chX
    rw [hset_other 25 (by omega), hset_other 25 (by omega), hset_other 25 (by omega), hset_row, hset_other 25 (by omega), hset_other 25 (by omega), hset_other 25 (by omega)]
  have x6 : x 21 6 = G 21 6 + 1 := by
    rw [← hx]
    unfold chX
    simp [hset_app]
  have x7 : x 21 7 = G 21 6 + 1 := by
    rw [← hx]
    unfold chX
    simp [hset_app]
  have yo : ∀ k : Nat, 58 ≤ k → k ≤ 70 → k ≠ tblM b → y k = g k := fun k hk hk2 hn => by
    rw [← hy]
    unfold chM
    rw [hset_other k hn, hset_other k (by omega), hset_other k (by omega), hset_other k (by omega), hset_other k (by omega), hset_other k (by omega), hset_other k (by omega)]
  have yt : y (tblM b) = upR (g (tblM b)) a.toNat v := by
    rw [← hy]
    unfold chM
    rw [hset_row, hset_other (tblM b) (by omega), hset_other (tblM b) (by omega), hset_other (tblM b) (by omega), hset_other (tblM b) (by omega), hset_other (tblM b) (by omega), hset_other (tblM b) (by omega)]
  have y57 : ∀ j : Nat, y 57 j = if j = 23 then 0 else if j = 22 then g 57 22 + 1 else g 57 j := fun j => by
    rw [← hy]
    unfold chM
    rw [hset_other 57 (by omega)]
    simp only [hset_app, Nat.reduceEqDiff, false_and, true_and, if_false]
  have y71 : y 71 = upR (g 71) (g 57 22).toNat a := by
    rw [← hy]
    unfold chM
    rw [hset_other 71 (by omega), hset_other 71 (by omega), hset_other 71 (by omega), hset_other 71 (by omega), hset_other 71 (by omega), hset_other 71 (by omega), hset_row]
  have y72 : y 72 = upR (g 72) (g 57 22).toNat b := by
    rw [← hy]
    unfold chM
    rw [hset_other 72 (by omega), hset_other 72 (by omega), hset_other 72 (by omega), hset_other 72 (by omega), hset_other 72 (by omega), hset_row, hset_other 72 (by omega)]
  have y73 : y 73 = upR (g 73) (g 57 22).toNat (g (tblM b) a.toNat) := by
    rw [← hy]
    unfold chM
    rw [hset_other 73 (by omega), hset_other 73 (by omega), hset_other 73 (by omega), hset_other 73 (by omega), hset_row, hset_other 73 (by omega), hset_other 73 (by omega)]
  have y74 : y 74 = upR (g 74) (g 57 22).toNat v := by
    rw [← hy]
    unfold chM
    rw [hset_other 74 (by omega), hset_other 74 (by omega), hset_other 74 (by omega), hset_row, hset_other 74 (by omega), hset_other 74 (by omega), hset_other 74 (by omega)]
  refine ⟨R.tab ok (fun k hk hn => xo k (by omega) hn) xt (fun j h1 h2 => by rw [y57, if_neg (by omega), if_neg (by omega)]) yo yt, ?_⟩
  unfold RlC
  rw [x6, x7, x22, x23, x24, x25, y71, y72, y73, y74, y57 22, y57 23, if_neg (by decide), if_pos rfl, if_pos rfl, xo 12 (by decide) (by unfold tblX; (repeat' split) <;> decide), xo 6 (by decide) (by omega), ← q1, ← q4, ← q5, ← q6, ← q7, ← val.2]
  refine ⟨rfl, by omega, by omega, by omega, by omega, ⟨rfl, rfl, rfl, rfl⟩, fun k hk => ?_⟩
  unfold upR
  by_cases u : k = (G 21 6).toNat
  · simp only [if_pos u]
    exact ⟨val.1, ok⟩
  · simp only [if_neg u]
    exact q8 k (by omega)
theorem sim_mend {K : KT} {d : Nat} {h : Hp} {a b v : Int} (hd : 130 ≤ d) (H : HOK h) (R : RLL h h) (q1 : inI a) (q2 : inI b) (q3 : inI v) : SIMC K yX11_mend cX11_mend 5 yX12_mend cX12_mend 6 (some .int) vI d [vR 0, vI a, vI b, vI v] [vR 57, vI a, vI b, vI v] h := by
  have ix := R.b.ix
  have C := R.c
  obtain ⟨p1, p2, p3, p4, p5, p6, p7⟩ := C
  have m1 := c_X11_mend (K := K) (dep := d) (h := h) (by omega) p3 ix.2.2.2.2.1 ix.2.1.2.1 q1 q2 q3
  by_cases z : ¬ mP (h 12 10) (h 6 3) a b v
  · rw [if_pos z, if_pos z] at m1
    have m2 := c_X12_mend (K := K) (dep := d) (h := h) (by omega) (by omega) (by rw [← R.b.2.2.2.1.1]; exact ix.2.2.2.2.1) (by rw [← R.b.2.1.1]; exact ix.2.1.2.1) q1 q2 q3
    rw [← R.b.2.2.2.1.1, ← R.b.2.1.1, if_pos z] at m2
    exact SIMC.idp R m1 (fun x f => f.symm) m2 (fun x f => f.elim (fun w => w.2) (fun w => absurd w.1 z))
  · have zz : mP (h 12 10) (h 6 3) a b v := Decidable.not_not.mp z
    have s1 := ix.2.1.1
    have ok : okC (h 12 10) (h 6 3) a b v := by
      unfold okC
      rcases zz with ⟨u0, u1, u2, u3⟩ | ⟨u0, u1, u2⟩ | ⟨u0, u1, u2, u3, u4⟩
      · exact Or.inl ⟨u0, u1.1, u1.2, u2, u3⟩
      · exact Or.inr (Or.inl ⟨u0, u1.1, u1.2, by omega, by omega⟩)
      · exact Or.inr (Or.inr ⟨u0, by omega, u1.2, u3, u4⟩)
    have val := R.b.val ok
    rw [if_neg z, if_neg z] at m1
    by_cases y : v = h (tblX b) a.toNat
    · rw [if_pos y] at m1
      have m2 := c_X12_mend (K := K) (dep := d) (h := h) (by omega) (by omega) (by rw [← R.b.2.2.2.1.1]; exact ix.2.2.2.2.1) (by rw [← R.b.2.1.1]; exact ix.2.1.2.1) q1 q2 q3
      rw [← R.b.2.2.2.1.1, ← R.b.2.1.1, if_neg z, ← val.2] at m2
      exact SIMC.idp R m1 (fun x f => f.symm) m2 (fun x f => f.elim (fun w => absurd w.1 z) (fun w => w.2.elim (fun u => u.2) (fun u => absurd y u.1)))
    · rw [if_neg y] at m1
      have tG : tX [1, 2, 9] h (if 40 ≤ h 21 6 then fgX h else h) := by
        split
        · exact fgX_t h
        · exact tX.rf
      refine SIMC.mk [1, 2, 9] R m1 (fun x f => by rw [← f]; exact tG.tr (chX_t _ _ _ _ _)) (fun x f hx r => ?_)
      have val2 := r.b.val ok
      obtain ⟨p1, p2, p3, p4, p5, p6, p7⟩ := r.c
      have m2 := c_X12_mend (K := K) (dep := d) (h := x) (by omega) (by omega) (by rw [← r.b.2.2.2.1.1]; exact ix.2.2.2.2.1) (by rw [← r.b.2.1.1]; exact ix.2.1.2.1) q1 q2 q3
      rw [← r.b.2.2.2.1.1, ← r.b.2.1.1, if_neg z, ← val2.2] at m2
      refine ⟨_, m2, fun x2 f2 => ?_⟩
      rcases f2 with w | w
      · exact absurd w.1 z
      rcases w.2 with u | ⟨_, g, gg, e2⟩
      · exact absurd u.1 y
      have tg : tM [1, 2, 9] x g := by
        rcases gg with gg | gg
        · rw [gg.2]
          exact tM.rf
        · exact FM_t gg.2
      have go : ∀ k : Nat, 58 ≤ k → k ≤ 70 → g k = x k := fun k h1 h2 => by
        rcases gg with gg | ⟨_, h3, S, e⟩
        · rw [gg.2]
        · rw [e, hset_other k (by omega)]
          refine S.1 k ?_
          simp
          omega
      have gs : ∀ j : Nat, j ≠ 22 → g 57 j = x 57 j := fun j hj => by
        rcases gg with gg | ⟨_, h3, S, e⟩
        · rw [gg.2]
        · rw [e, hset_app, if_neg (by omega), S.1 57 rfl]
      have Go : ∀ k : Nat, k ≤ 20 → (if 40 ≤ h 21 6 then fgX h else h) k = h k := fun k hk => by
        split
        · exact (fgX_rows h).2.2.2.2 k hk
        · rfl
      have RB : RlB (if 40 ≤ h 21 6 then fgX h else h) g := r.b.fr (fun k j hk t => by
        by_cases k20 : k ≤ 20
        · rw [Go k k20]
        · exfalso
          revert t
          unfold gX
          (repeat' split) <;> omega) (fun k j hk t => by
        by_cases k57 : k = 57
        · rw [k57] at t ⊢
          refine gs j (fun w => ?_)
          rw [w] at t
          exact absurd t (by decide)
        · by_cases k70 : k ≤ 70
          · rw [go k (by omega) k70]
          · exfalso
            revert t
            unfold gM
            rw [if_neg k57]
            (repeat' split) <;> omega)
      have RR : RlR (h 12 10) (h 6 3) (if 40 ≤ h 21 6 then fgX h else h) g := by
        by_cases f40 : 40 ≤ h 21 6
        · rw [if_pos f40]
          rcases gg with gg | ⟨_, h3, S, e⟩
          · exact absurd (show x 57 22 = 40 by omega) gg.1
          have F := fgX_rows h
          have e71 : g 71 = shR (x 71) 39 := by rw [e, hset_other 71 (by decide)]; exact funext S.2.1
          have e72 : g 72 = shR (x 72) 39 := by rw [e, hset_other 72 (by decide)]; exact funext S.2.2.1
          have e73 : g 73 = shR (x 73) 39 := by rw [e, hset_other 73 (by decide)]; exact funext S.2.2.2.1
          have e74 : g 74 = shR (x 74) 39 := by rw [e, hset_other 74 (by decide)]; exact funext S.2.2.2.2
          have e22 : g 57 22 = 39 := by rw [e]; exact hset_same _ _ _ _
          unfold RlR
          rw [fgX_done, F.1, F.2.1, F.2.2.1, F.2.2.2.1, e71, e72, e73, e74, e22, p6.1, p6.2.1, p6.2.2.1, p6.2.2.2]
          refine ⟨rfl, by decide, by decide, ⟨rfl, rfl, rfl, rfl⟩, fun k hk => ?_⟩
          unfold shR
          simp only [if_pos (show k < 39 by omega)]
          rw [← p6.1, ← p6.2.1, ← p6.2.2.1, ← p6.2.2.2]
          exact p7 (k + 1) (by push_cast; omega)
        · rw [if_neg f40]
          rcases gg with gg | ⟨w, _⟩
          · rw [gg.2]
            exact ⟨p1, p3, by omega, p6, fun k hk => p7 k (by omega)⟩
          · exact absurd w (by omega)
      have G12 : (if 40 ≤ h 21 6 then fgX h else h) 12 10 = h 12 10 := by rw [Go 12 (by decide)]
      have G6 : (if 40 ≤ h 21 6 then fgX h else h) 6 3 = h 6 3 := by rw [Go 6 (by decide)]
      have Gt : (if 40 ≤ h 21 6 then fgX h else h) (tblX b) a.toNat = h (tblX b) a.toNat := by rw [Go (tblX b) (by have := tblX_le b; omega)]
      have ch := Rl_change (a := a) (b := b) (v := v) RB (by rw [G12, G6]; exact RR) (by rw [G12, G6]; exact ok)
      rw [Gt, f, ← e2] at ch
      exact ⟨by rw [e2]; exact tg.tr (chM_t _ _ _ _), RLp.bc ch.1 ch.2⟩
theorem sim_undo {K : KT} {d : Nat} {h : Hp} (hd : 130 ≤ d) (H : HOK h) (R : RLL h h) : SIMC K yX11_undo cX11_undo 1 yX12_undo cX12_undo 1 (some .int) vI d [vR 0] [vR 57] h := by
  have ix := R.b.ix
  obtain ⟨p1, p2, p3, p4, p5, p6, p7⟩ := R.c
  have m1 := c_X11_undo (K := K) (dep := d) (h := h) (by omega) (by omega) (fun k hk => p7 k (by omega)) ix.2.2.2.2.1 ix.2.1.2.1
  by_cases z : h 21 6 ≤ 0
  · rw [if_pos z, if_pos z] at m1
    have m2 := c_X12_undo (K := K) (dep := d) (h := h) (by omega) (by omega) (by rw [← R.b.2.2.2.1.1, ← R.b.2.1.1, ← p1, ← p6.1, ← p6.2.1, ← p6.2.2.1, ← p6.2.2.2]; exact fun k hk => p7 k (by omega)) (by rw [← R.b.2.2.2.1.1]; exact ix.2.2.2.2.1) (by rw [← R.b.2.1.1]; exact ix.2.1.2.1)
    rw [if_pos (show h 57 22 = 0 by omega), if_pos (show h 57 22 = 0 by omega)] at m2
    exact SIMC.id R m1 m2
  · rw [if_neg z, if_neg z] at m1
    have hk : ((h 21 6 - 1).toNat : Int) < h 21 7 := by omega
    have ok := (p7 (h 21 6 - 1).toNat hk).1
    refine SIMC.mk [1, 2, 9] R m1 (fun x f => by rw [← f]; exact (tX.rf.st (by decide) rfl).st (by have := tblX_le (h 23 (h 21 6 - 1).toNat); omega) (by rw [gX_tbl]; rfl)) (fun x f hx r => ?_)
    have rb := r.b
    obtain ⟨p1, p2, p3, p4, p5, p6, p7⟩ := r.c
    have m2 := c_X12_undo (K := K) (dep := d) (h := x) (by omega) (by omega) (by rw [← r.b.2.2.2.1.1, ← r.b.2.1.1, ← p1, ← p6.1, ← p6.2.1, ← p6.2.2.1, ← p6.2.2.2]; exact fun k hk => p7 k (by omega)) (by rw [← r.b.2.2.2.1.1]; exact ix.2.2.2.2.1) (by rw [← r.b.2.1.1]; exact ix.2.1.2.1)
    rw [if_neg (show ¬ x 57 22 = 0 by omega), if_neg (show ¬ x 57 22 = 0 by omega), ← p1, ← p6.1, ← p6.2.1, ← p6.2.2.1] at m2
    refine ⟨_, m2, fun x2 f2 => ?_⟩
    generalize hw : h 23 (h 21 6 - 1).toNat = w at *
    generalize hnu : h 22 (h 21 6 - 1).toNat = nu at *
    generalize hbe : h 24 (h 21 6 - 1).toNat = be at *
    have l1 := tblX_le w
    have l0 := tblX_ge w
    have l2 := tblM_le w
    have xo : ∀ k : Nat, k ≠ tblX w → k ≠ 21 → x k = h k := fun k h1 h2 => by rw [← f, hset_other k h1, hset_other k h2]
    have xt : x (tblX w) = upR (h (tblX w)) nu.toNat be := by rw [← f, hset_row, hset_other (tblX w) (by omega)]
    have x6 : x 21 6 = h 21 6 - 1 := by rw [← f, hset_other 21 (by omega)]; exact hset_same _ _ _ _
    have x7 : x 21 7 = h 21 7 := by rw [← f, hset_other 21 (by omega)]; exact hset_slot (by decide)
    have yo : ∀ k : Nat, k ≠ tblM w → k ≠ 57 → x2 k = x k := fun k h1 h2 => by rw [← f2, hset_other k h1, hset_other k h2, hset_other k h2]
    have yt : x2 (tblM w) = upR (x (tblM w)) nu.toNat be := by rw [← f2, hset_row, hset_other (tblM w) (by omega), hset_other (tblM w) (by omega)]
    have y57 : ∀ j : Nat, x2 57 j = if j = 23 then x 57 23 + 1 else if j = 22 then h 21 6 - 1 else x 57 j := fun j => by
      rw [← f2, hset_other 57 (by omega)]
      simp only [hset_app, Nat.reduceEqDiff, false_and, true_and, and_false, if_false]
    refine ⟨?_, RLp.bc ?_ ?_⟩
    · rw [← f2]
      exact ((tM.rf.st (by decide) rfl).st (by decide) rfl).st (by omega) (by rw [gM_tbl]; rfl)
    · exact rb.tab ok (fun k hk hn => xo k hn (by omega)) xt (fun j h1 h2 => by rw [y57, if_neg (by omega), if_neg (by omega)]) (fun k h1 h2 hn => yo k hn (by omega)) yt
    · unfold RlC
      rw [xo 12 (by unfold tblX; (repeat' split) <;> decide) (by decide), xo 6 (by omega) (by decide), x6, x7, xo 22 (by omega) (by decide), xo 23 (by omega) (by decide), xo 24 (by omega) (by decide), xo 25 (by omega) (by decide), yo 71 (by omega) (by decide), yo 72 (by omega) (by decide), yo 73 (by omega) (by decide), yo 74 (by omega) (by decide), y57 22, y57 23, if_neg (by decide), if_pos rfl, if_pos rfl]
      exact ⟨rfl, by omega, by omega, by omega, by omega, p6, p7⟩
theorem sim_redo {K : KT} {d : Nat} {h : Hp} (hd : 130 ≤ d) (H : HOK h) (R : RLL h h) : SIMC K yX11_redo cX11_redo 1 yX12_redo cX12_redo 1 (some .int) vI d [vR 0] [vR 57] h := by
  have ix := R.b.ix
  obtain ⟨p1, p2, p3, p4, p5, p6, p7⟩ := R.c
  have m1 := c_X11_redo (K := K) (dep := d) (h := h) (by omega) ⟨p3, p5⟩ p7 ix.2.2.2.2.1 ix.2.1.2.1
  by_cases z : h 21 7 ≤ h 21 6
  · rw [if_pos z, if_pos z] at m1
    have m2 := c_X12_redo (K := K) (dep := d) (h := h) (by omega) (by omega) (by rw [← R.b.2.2.2.1.1, ← R.b.2.1.1, ← p2, ← p6.1, ← p6.2.1, ← p6.2.2.1, ← p6.2.2.2]; exact p7) (by rw [← R.b.2.2.2.1.1]; exact ix.2.2.2.2.1) (by rw [← R.b.2.1.1]; exact ix.2.1.2.1)
    rw [if_pos (show h 57 23 = 0 by omega), if_pos (show h 57 23 = 0 by omega)] at m2
    exact SIMC.id R m1 m2
  · rw [if_neg z, if_neg z] at m1
    have hk : ((h 21 6).toNat : Int) < h 21 7 := by omega
    have ok := (p7 (h 21 6).toNat hk).2
    refine SIMC.mk [1, 2, 9] R m1 (fun x f => by rw [← f]; exact (tX.rf.st (by have := tblX_le (h 23 (h 21 6).toNat); omega) (by rw [gX_tbl]; rfl)).st (by decide) rfl) (fun x f hx r => ?_)
    have rb := r.b
    obtain ⟨p1, p2, p3, p4, p5, p6, p7⟩ := r.c
    have m2 := c_X12_redo (K := K) (dep := d) (h := x) (by omega) (by omega) (by rw [← r.b.2.2.2.1.1, ← r.b.2.1.1, ← p2, ← p6.1, ← p6.2.1, ← p6.2.2.1, ← p6.2.2.2]; exact p7) (by rw [← r.b.2.2.2.1.1]; exact ix.2.2.2.2.1) (by rw [← r.b.2.1.1]; exact ix.2.1.2.1)
    rw [if_neg (show ¬ x 57 23 = 0 by omega), if_neg (show ¬ x 57 23 = 0 by omega), ← p1, ← p6.1, ← p6.2.1, ← p6.2.2.2, show x 57 23 - 1 = h 21 7 - (h 21 6 + 1) by omega] at m2
    refine ⟨_, m2, fun x2 f2 => ?_⟩
    generalize hw : h 23 (h 21 6).toNat = w at *
    generalize hnu : h 22 (h 21 6).toNat = nu at *
    generalize hbe : h 25 (h 21 6).toNat = be at *
    have l1 := tblX_le w
    have l0 := tblX_ge w
    have l2 := tblM_le w
    have xo : ∀ k : Nat, k ≠ tblX w → k ≠ 21 → x k = h k := fun k h1 h2 => by rw [← f, hset_other k h2, hset_other k h1]
    have xt : x (tblX w) = upR (h (tblX w)) nu.toNat be := by rw [← f, hset_other (tblX w) (by omega), hset_row]
    have x6 : x 21 6 = h 21 6 + 1 := by rw [← f]; exact hset_same _ _ _ _
    have x7 : x 21 7 = h 21 7 := by rw [← f, hset_slot (by decide), hset_other 21 (by omega)]
    have yo : ∀ k : Nat, k ≠ tblM w → k ≠ 57 → x2 k = x k := fun k h1 h2 => by rw [← f2, hset_other k h2, hset_other k h2, hset_other k h1]
    have yt : x2 (tblM w) = upR (x (tblM w)) nu.toNat be := by rw [← f2, hset_other (tblM w) (by omega), hset_other (tblM w) (by omega), hset_row]
    have y57 : ∀ j : Nat, x2 57 j = if j = 23 then h 21 7 - (h 21 6 + 1) else if j = 22 then h 21 6 + 1 else x 57 j := fun j => by
      have n57 : ¬ 57 = tblM w := by omega
      rw [← f2]
      simp only [hset_app, n57, false_and, true_and, if_false]
    refine ⟨?_, RLp.bc ?_ ?_⟩
    · rw [← f2]
      exact ((tM.rf.st (by omega) (by rw [gM_tbl]; rfl)).st (by decide) rfl).st (by decide) rfl
    · exact rb.tab ok (fun k hk hn => xo k hn (by omega)) xt (fun j h1 h2 => by rw [y57, if_neg (by omega), if_neg (by omega)]) (fun k h1 h2 hn => yo k hn (by omega)) yt
    · unfold RlC
      rw [xo 12 (by unfold tblX; (repeat' split) <;> decide) (by decide), xo 6 (by omega) (by decide), x6, x7, xo 22 (by omega) (by decide), xo 23 (by omega) (by decide), xo 24 (by omega) (by decide), xo 25 (by omega) (by decide), yo 71 (by omega) (by decide), yo 72 (by omega) (by decide), yo 73 (by omega) (by decide), yo 74 (by omega) (by decide), y57 22, y57 23, if_neg (by decide), if_pos rfl, if_pos rfl]
      exact ⟨rfl, by omega, by omega, by omega, by omega, p6, p7⟩
