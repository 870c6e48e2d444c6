/-! THE START: the world of both, as numbers -/
def WX11r (cA : Nat → ClassId) (h0 : Nat) (f : Nat → Nat) : va_W := [(h0, .inr (11, [.ref (f 0), .ref (f 5), .ref (f 9), .ref (f 11), .ref (f 20), .ref (f 25), .ref (f 34), .ref (f 39), .ref (f 42), .ref (f 45), .int (Int32.ofInt (100))])), (f 0, .inr (6, [.ref ((f 1)), .ref ((f 2)), .ref ((f 3)), .ref ((f 4)), .int (Int32.ofInt 0)])), (f 1, .inl (cA 0, 20, .inl (fun _ => Int32.ofInt 0))), (f 2, .inl (cA 0, 20, .inl (fun _ => Int32.ofInt 0))), (f 3, .inl (cA 0, 20, .inl (fun _ => Int32.ofInt 0))), (f 4, .inl (cA 0, 20, .inl (fun _ => Int32.ofInt 0))), (f 5, .inr (9, [.ref ((f 6)), .ref ((f 7)), .ref ((f 8)), .int (Int32.ofInt (1))])), (f 6, .inl (cA 0, 6, .inl (upd (fun _ => Int32.ofInt 0) (Int32.ofInt (0)).toNatClampNeg (Int32.ofInt (20))))), (f 7, .inl (cA 0, 6, .inl (fun _ => Int32.ofInt 0))), (f 8, .inl (cA 0, 6, .inl (fun _ => Int32.ofInt 0))), (f 9, .inr (4, [.ref ((f 10)), .int (Int32.ofInt 0)])), (f 10, .inl (cA 0, 5, .inl (fun _ => Int32.ofInt 0))), (f 11, .inr (7, [.ref (f 5), .ref (f 9), .ref ((f 12)), .ref ((f 13)), .ref ((f 14)), .ref ((f 15)), .ref ((f 16)), .ref ((f 17)), .ref ((f 18)), .ref ((f 19)), .int (Int32.ofInt 0)])), (f 12, .inl (cA 0, 120, .inl (fun _ => Int32.ofInt 0))), (f 13, .inl (cA 0, 120, .inl (fun _ => Int32.ofInt 0))), (f 14, .inl (cA 0, 120, .inl (fun _ => Int32.ofInt 0))), (f 15, .inl (cA 0, 120, .inl (fun _ => Int32.ofInt 0))), (f 16, .inl (cA 0, 120, .inl (fun _ => Int32.ofInt 0))), (f 17, .inl (cA 0, 120, .inl (fun _ => Int32.ofInt 0))), (f 18, .inl (cA 0, 120, .inl (fun _ => Int32.ofInt 0))), (f 19, .inl (cA 0, 120, .inl (fun _ => Int32.ofInt 0))), (f 20, .inr (3, [.ref (f 11), .ref (f 5), .ref ((f 21)), .ref ((f 22)), .ref ((f 23)), .ref ((f 24)), .int (Int32.ofInt 0), .int (Int32.ofInt 0)])), (f 21, .inl (cA 0, 40, .inl (fun _ => Int32.ofInt 0))), (f 22, .inl (cA 0, 40, .inl (fun _ => Int32.ofInt 0))), (f 23, .inl (cA 0, 40, .inl (fun _ => Int32.ofInt 0))), (f 24, .inl (cA 0, 40, .inl (fun _ => Int32.ofInt 0))), (f 25, .inr (5, [.ref ((f 26)), .ref ((f 27)), .ref ((f 28)), .ref ((f 33)), .int (Int32.ofInt 0), .int (Int32.ofInt 0), .ref ((f 27)), .int (Int32.ofInt 0), .int (Int32.ofInt 0), .int (Int32.ofInt 0)])), (f 26, .inl (cA 0, 9, .inl (fun _ => Int32.ofInt 0))), (f 27, .inl (cA 1, 120, .inl (fun _ => Int32.ofInt 0))), (f 28, .inl (cA 3, 4, .inr (.inr (.inr (.inr (fun j => some ([f 29, f 30, f 31, f 32].getD j 0))))))), (f 29, .inl (cA 1, 120, .inl (fun _ => Int32.ofInt 0))), (f 30, .inl (cA 1, 120, .inl (fun _ => Int32.ofInt 0))), (f 31, .inl (cA 1, 120, .inl (fun _ => Int32.ofInt 0))), (f 32, .inl (cA 1, 120, .inl (fun _ => Int32.ofInt 0))), (f 33, .inl (cA 0, 4, .inl (fun _ => Int32.ofInt 0))), (f 34, .inr (2, [.ref (f 11), .ref ((f 35)), .ref ((f 36)), .ref ((f 37)), .ref ((f 38))])), (f 35, .inr (10, [.long (Int64.ofInt 0), .long (Int64.ofInt 0), .int (Int32.ofInt 0), .int (Int32.ofInt 0)])), (f 36, .inl (cA 2, 4, .inr (.inl (fun _ => Int64.ofInt 0)))), (f 37, .inl (cA 0, 4, .inl (fun _ => Int32.ofInt 0))), (f 38, .inl (cA 0, 12, .inl (fun _ => Int32.ofInt 0))), (f 39, .inr (1, [.ref ((f 40)), .ref ((f 41)), .int (Int32.ofInt 0)])), (f 40, .inl (cA 0, 6, .inl (fun _ => Int32.ofInt 0))), (f 41, .inl (cA 0, 6, .inl (fun _ => Int32.ofInt 0))), (f 42, .inr (0, [.ref ((f 43)), .ref ((f 44)), .int (Int32.ofInt 0), .int (Int32.ofInt 0)])), (f 43, .inl (cA 0, 50, .inl (fun _ => Int32.ofInt 0))), (f 44, .inl (cA 0, 24, .inl (fun _ => Int32.ofInt 0))), (f 45, .inr (8, [.ref ((f 46)), .ref ((f 47)), .ref ((f 48)), .ref ((f 49))])), (f 46, .inl (cA 0, 6, .inl (upd (upd (upd (upd (upd (upd (fun _ => Int32.ofInt 0) (Int32.ofInt (0)).toNatClampNeg (Int32.ofInt (6))) (Int32.ofInt (1)).toNatClampNeg (Int32.ofInt (6))) (Int32.ofInt (2)).toNatClampNeg (Int32.ofInt (6))) (Int32.ofInt (3)).toNatClampNeg (Int32.ofInt (6))) (Int32.ofInt (4)).toNatClampNeg (Int32.ofInt (6))) (Int32.ofInt (5)).toNatClampNeg (Int32.ofInt (6))))), (f 47, .inl (cA 0, 6, .inl (fun _ => Int32.ofInt 0))), (f 48, .inl (cA 0, 6, .inl (fun _ => Int32.ofInt 0))), (f 49, .inl (cA 4, 6, .inr (.inr (.inr (.inr (fun j => some ([f 50, f 51, f 52, f 53, f 54, f 55].getD j 0))))))), (f 50, .inl (cA 2, 60, .inr (.inl (fun _ => Int64.ofInt 0)))), (f 51, .inl (cA 2, 60, .inr (.inl (fun _ => Int64.ofInt 0)))), (f 52, .inl (cA 2, 60, .inr (.inl (fun _ => Int64.ofInt 0)))), (f 53, .inl (cA 2, 60, .inr (.inl (fun _ => Int64.ofInt 0)))), (f 54, .inl (cA 2, 60, .inr (.inl (fun _ => Int64.ofInt 0)))), (f 55, .inl (cA 2, 60, .inr (.inl (fun _ => Int64.ofInt 0))))]
def WX11 (cA : Nat → ClassId) (h0 : Nat) (f : Nat → Nat) : va_W := [(h0, .inr (11, [.ref (f 0), .ref (f 5), .ref (f 9), .ref (f 11), .ref (f 20), .ref (f 25), .ref (f 34), .ref (f 39), .ref (f 42), .ref (f 45), .int (Int32.ofInt (100))])), (f 0, .inr (6, [.ref ((f 1)), .ref ((f 2)), .ref ((f 3)), .ref ((f 4)), .int (Int32.ofInt 0)])), (f 1, .inl (cA 0, 20, .inl (fun _ => Int32.ofInt 0))), (f 2, .inl (cA 0, 20, .inl (fun _ => Int32.ofInt 0))), (f 3, .inl (cA 0, 20, .inl (fun _ => Int32.ofInt 0))), (f 4, .inl (cA 0, 20, .inl (fun _ => Int32.ofInt 0))), (f 5, .inr (9, [.ref ((f 6)), .ref ((f 7)), .ref ((f 8)), .int (Int32.ofInt (1))])), (f 6, .inl (cA 0, 6, .inl (upd (fun _ => Int32.ofInt 0) (Int32.ofInt (0)).toNatClampNeg (Int32.ofInt (20))))), (f 7, .inl (cA 0, 6, .inl (fun _ => Int32.ofInt 0))), (f 8, .inl (cA 0, 6, .inl (fun _ => Int32.ofInt 0))), (f 9, .inr (4, [.ref ((f 10)), .int (Int32.ofInt 0)])), (f 10, .inl (cA 0, 5, .inl (fun _ => Int32.ofInt 0))), (f 11, .inr (7, [.ref (f 5), .ref (f 9), .ref ((f 12)), .ref ((f 13)), .ref ((f 14)), .ref ((f 15)), .ref ((f 16)), .ref ((f 17)), .ref ((f 18)), .ref ((f 19)), .int (Int32.ofInt 0)])), (f 12, .inl (cA 0, 120, .inl (fun _ => Int32.ofInt 0))), (f 13, .inl (cA 0, 120, .inl (fun _ => Int32.ofInt 0))), (f 14, .inl (cA 0, 120, .inl (fun _ => Int32.ofInt 0))), (f 15, .inl (cA 0, 120, .inl (fun _ => Int32.ofInt 0))), (f 16, .inl (cA 0, 120, .inl (fun _ => Int32.ofInt 0))), (f 17, .inl (cA 0, 120, .inl (fun _ => Int32.ofInt 0))), (f 18, .inl (cA 0, 120, .inl (fun _ => Int32.ofInt 0))), (f 19, .inl (cA 0, 120, .inl (fun _ => Int32.ofInt 0))), (f 20, .inr (3, [.ref (f 11), .ref (f 5), .ref ((f 21)), .ref ((f 22)), .ref ((f 23)), .ref ((f 24)), .int (Int32.ofInt 0), .int (Int32.ofInt 0)])), (f 21, .inl (cA 0, 40, .inl (fun _ => Int32.ofInt 0))), (f 22, .inl (cA 0, 40, .inl (fun _ => Int32.ofInt 0))), (f 23, .inl (cA 0, 40, .inl (fun _ => Int32.ofInt 0))), (f 24, .inl (cA 0, 40, .inl (fun _ => Int32.ofInt 0))), (f 25, .inr (5, [.ref ((f 26)), .ref ((f 27)), .ref ((f 28)), .ref ((f 33)), .int (Int32.ofInt 0), .int (Int32.ofInt 0), .ref ((f 27)), .int (Int32.ofInt 0), .int (Int32.ofInt 0), .int (Int32.ofInt 0)])), (f 26, .inl (cA 0, 9, .inl (fun _ => Int32.ofInt 0))), (f 27, .inl (cA 1, 120, .inl (fun _ => Int32.ofInt 0))), (f 28, .inl (cA 3, 4, .inr (.inr (.inr (.inr (fun j => some ([f 29, f 30, f 31, f 32].getD j 0))))))), (f 29, .inl (cA 1, 120, .inl (fun _ => Int32.ofInt 0))), (f 30, .inl (cA 1, 120, .inl (fun _ => Int32.ofInt 0))), (f 31, .inl (cA 1, 120, .inl (fun _ => Int32.ofInt 0))), (f 32, .inl (cA 1, 120, .inl (fun _ => Int32.ofInt 0))), (f 33, .inl (cA 0, 4, .inl (fun _ => Int32.ofInt 0))), (f 34, .inr (2, [.ref (f 11), .ref ((f 35)), .ref ((f 36)), .ref ((f 37)), .ref ((f 38))])), (f 36, .inl (cA 2, 4, .inr (.inl (fun _ => Int64.ofInt 0)))), (f 37, .inl (cA 0, 4, .inl (fun _ => Int32.ofInt 0))), (f 38, .inl (cA 0, 12, .inl (fun _ => Int32.ofInt 0))), (f 35, .inr (10, [.long (Int64.ofInt 0), .long (Int64.ofInt 0), .int (Int32.ofInt 0), .int (Int32.ofInt 0)])), (f 39, .inr (1, [.ref ((f 40)), .ref ((f 41)), .int (Int32.ofInt 0)])), (f 40, .inl (cA 0, 6, .inl (fun _ => Int32.ofInt 0))), (f 41, .inl (cA 0, 6, .inl (fun _ => Int32.ofInt 0))), (f 42, .inr (0, [.ref ((f 43)), .ref ((f 44)), .int (Int32.ofInt 0), .int (Int32.ofInt 0)])), (f 43, .inl (cA 0, 50, .inl (fun _ => Int32.ofInt 0))), (f 44, .inl (cA 0, 24, .inl (fun _ => Int32.ofInt 0))), (f 45, .inr (8, [.ref ((f 46)), .ref ((f 47)), .ref ((f 48)), .ref ((f 49))])), (f 46, .inl (cA 0, 6, .inl (upd (upd (upd (upd (upd (upd (fun _ => Int32.ofInt 0) (Int32.ofInt (0)).toNatClampNeg (Int32.ofInt (6))) (Int32.ofInt (1)).toNatClampNeg (Int32.ofInt (6))) (Int32.ofInt (2)).toNatClampNeg (Int32.ofInt (6))) (Int32.ofInt (3)).toNatClampNeg (Int32.ofInt (6))) (Int32.ofInt (4)).toNatClampNeg (Int32.ofInt (6))) (Int32.ofInt (5)).toNatClampNeg (Int32.ofInt (6))))), (f 47, .inl (cA 0, 6, .inl (fun _ => Int32.ofInt 0))), (f 48, .inl (cA 0, 6, .inl (fun _ => Int32.ofInt 0))), (f 49, .inl (cA 4, 6, .inr (.inr (.inr (.inr (fun j => some ([f 50, f 51, f 52, f 53, f 54, f 55].getD j 0))))))), (f 50, .inl (cA 2, 60, .inr (.inl (fun _ => Int64.ofInt 0)))), (f 51, .inl (cA 2, 60, .inr (.inl (fun _ => Int64.ofInt 0)))), (f 52, .inl (cA 2, 60, .inr (.inl (fun _ => Int64.ofInt 0)))), (f 53, .inl (cA 2, 60, .inr (.inl (fun _ => Int64.ofInt 0)))), (f 54, .inl (cA 2, 60, .inr (.inl (fun _ => Int64.ofInt 0)))), (f 55, .inl (cA 2, 60, .inr (.inl (fun _ => Int64.ofInt 0))))]
def WX12 (cA : Nat → ClassId) (h0 : Nat) (f : Nat → Nat) : va_W := [(h0, .inr (12, [.ref (f 0), .ref (f 1), .ref (f 2), .ref (f 3), .ref (f 4), .ref (f 5), .ref (f 6), .ref (f 7), .ref (f 8), .ref (f 9), .ref (f 10), .ref (f 11), .ref (f 12), .int (Int32.ofInt 0), .int (Int32.ofInt (1)), .int (Int32.ofInt 0), .int (Int32.ofInt 0), .int (Int32.ofInt (100)), .ref (f 13), .ref (f 14), .ref (f 15), .ref (f 16), .int (Int32.ofInt 0), .int (Int32.ofInt 0), .ref (f 17), .ref (f 18), .ref (f 19), .ref (f 20), .ref (f 21), .int (Int32.ofInt 0), .int (Int32.ofInt 0), .int (Int32.ofInt 0), .int (Int32.ofInt 0), .int (Int32.ofInt 0), .int (Int32.ofInt 0), .int (Int32.ofInt 0), .int (Int32.ofInt 0), .ref (f 22), .int (Int32.ofInt 0), .int (Int32.ofInt 0), .int (Int32.ofInt 0), .int (Int32.ofInt 0), .int (Int32.ofInt 0), .int (Int32.ofInt 0), .int (Int32.ofInt 0), .int (Int32.ofInt 0), .ref (f 23), .ref (f 24), .ref (f 25), .int (Int32.ofInt 0), .ref (f 26), .ref (f 27), .int (Int32.ofInt 0), .int (Int32.ofInt 0), .ref (f 28), .ref (f 29), .ref (f 30), .ref (f 31), .ref (f 32)])), (f 0, .inl (cA 0, 20, .inl (fun _ => Int32.ofInt 0))), (f 1, .inl (cA 0, 20, .inl (fun _ => Int32.ofInt 0))), (f 2, .inl (cA 0, 20, .inl (fun _ => Int32.ofInt 0))), (f 3, .inl (cA 0, 20, .inl (fun _ => Int32.ofInt 0))), (f 4, .inl (cA 0, 6, .inl (upd (fun _ => Int32.ofInt 0) (Int32.ofInt (0)).toNatClampNeg (Int32.ofInt (20))))), (f 5, .inl (cA 0, 6, .inl (fun _ => Int32.ofInt 0))), (f 6, .inl (cA 0, 6, .inl (fun _ => Int32.ofInt 0))), (f 7, .inl (cA 0, 5, .inl (fun _ => Int32.ofInt 0))), (f 8, .inl (cA 0, 120, .inl (fun _ => Int32.ofInt 0))), (f 9, .inl (cA 0, 120, .inl (fun _ => Int32.ofInt 0))), (f 10, .inl (cA 0, 120, .inl (fun _ => Int32.ofInt 0))), (f 11, .inl (cA 0, 120, .inl (fun _ => Int32.ofInt 0))), (f 12, .inl (cA 0, 120, .inl (fun _ => Int32.ofInt 0))), (f 13, .inl (cA 0, 40, .inl (fun _ => Int32.ofInt 0))), (f 14, .inl (cA 0, 40, .inl (fun _ => Int32.ofInt 0))), (f 15, .inl (cA 0, 40, .inl (fun _ => Int32.ofInt 0))), (f 16, .inl (cA 0, 40, .inl (fun _ => Int32.ofInt 0))), (f 17, .inl (cA 0, 120, .inl (fun _ => Int32.ofInt 0))), (f 18, .inl (cA 0, 1000, .inl (fun _ => Int32.ofInt 0))), (f 19, .inl (cA 0, 5, .inl (fun _ => Int32.ofInt 0))), (f 20, .inl (cA 0, 130, .inl (fun _ => Int32.ofInt 0))), (f 21, .inl (cA 0, 130, .inl (fun _ => Int32.ofInt 0))), (f 22, .inl (cA 0, 130, .inl (fun _ => Int32.ofInt 0))), (f 23, .inl (cA 0, 120, .inl (fun _ => Int32.ofInt 0))), (f 24, .inl (cA 0, 6, .inl (fun _ => Int32.ofInt 0))), (f 25, .inl (cA 0, 6, .inl (fun _ => Int32.ofInt 0))), (f 26, .inl (cA 0, 50, .inl (fun _ => Int32.ofInt 0))), (f 27, .inl (cA 0, 24, .inl (fun _ => Int32.ofInt 0))), (f 28, .inl (cA 0, 6, .inl (upd (upd (upd (upd (upd (upd (fun _ => Int32.ofInt 0) (Int32.ofInt (0)).toNatClampNeg (Int32.ofInt (-2))) (Int32.ofInt (1)).toNatClampNeg (Int32.ofInt (-2))) (Int32.ofInt (2)).toNatClampNeg (Int32.ofInt (-2))) (Int32.ofInt (3)).toNatClampNeg (Int32.ofInt (-2))) (Int32.ofInt (4)).toNatClampNeg (Int32.ofInt (-2))) (Int32.ofInt (5)).toNatClampNeg (Int32.ofInt (-2))))), (f 29, .inl (cA 0, 6, .inl (fun _ => Int32.ofInt 0))), (f 30, .inl (cA 0, 6, .inl (fun _ => Int32.ofInt 0))), (f 31, .inl (cA 2, 360, .inr (.inl (fun _ => Int64.ofInt 0)))), (f 32, .inl (cA 2, 60, .inr (.inl (fun _ => Int64.ofInt 0))))]
def AD (q0 q1 : Nat) (f g t : Nat → Nat) : Nat → Nat := fun k => if k = 0 then q0 else if k = 36 then f 36 else if k = 37 then f 37 else if k = 38 then f 38 else if k = 39 then f 35 else if k < 57 then f (k - 1) else if k = 57 then q1 else if k < 91 then g (k - 58) else t k
def mapI (f : Nat → Nat → Value) : Nat → List Nat → List Value
  | _, [] => []
  | i, a :: l => f i a :: mapI f (i + 1) l
theorem mapI_go (f : Nat → Nat → Value) : ∀ (l : List Nat) (i : Nat), l.mapIdx (fun j a => f (j + i) a) = mapI f i l
  | [], i => by simp [mapI]
  | a :: l, i => by
    rw [List.mapIdx_cons, mapI, ← mapI_go f l (i + 1)]
    congr 1
    · rw [Nat.zero_add]
    · congr 1
      funext j b
      rw [show j + 1 + i = j + (i + 1) by omega]
theorem mk_o {ad : Nat → Nat} {cA : Nat → ClassId} {row : Nat → Int} {kd : LK} {ci : Nat} {sl : List Nat} (h : kd = (0, ci, sl)) : mkE ad cA row kd = .inr (ci, mapI (fun j sk => sv ad sk (row j)) 0 sl) := by
  rw [h, ← mapI_go]
  rfl
theorem tn_0 : (Int32.ofInt 0).toNatClampNeg = 0 := by decide +kernel
theorem tn_1 : (Int32.ofInt 1).toNatClampNeg = 1 := by decide +kernel
theorem tn_2 : (Int32.ofInt 2).toNatClampNeg = 2 := by decide +kernel
theorem tn_3 : (Int32.ofInt 3).toNatClampNeg = 3 := by decide +kernel
theorem tn_4 : (Int32.ofInt 4).toNatClampNeg = 4 := by decide +kernel
theorem tn_5 : (Int32.ofInt 5).toNatClampNeg = 5 := by decide +kernel
theorem up_1 : upd (fun _ => Int32.ofInt 0) (Int32.ofInt (0)).toNatClampNeg (Int32.ofInt (20)) = fun j => Int32.ofInt (if j = 0 then 20 else 0) := by
  funext j
  unfold upd
  rw [tn_0]
  split <;> rfl
theorem up_6 (v : Int) : upd (upd (upd (upd (upd (upd (fun _ => Int32.ofInt 0) (Int32.ofInt (0)).toNatClampNeg (Int32.ofInt (v))) (Int32.ofInt (1)).toNatClampNeg (Int32.ofInt (v))) (Int32.ofInt (2)).toNatClampNeg (Int32.ofInt (v))) (Int32.ofInt (3)).toNatClampNeg (Int32.ofInt (v))) (Int32.ofInt (4)).toNatClampNeg (Int32.ofInt (v))) (Int32.ofInt (5)).toNatClampNeg (Int32.ofInt (v)) = fun j => Int32.ofInt (if j < 6 then v else 0) := by
  funext j
  unfold upd
  rw [tn_0, tn_1, tn_2, tn_3, tn_4, tn_5]
  by_cases h : j < 6
  · rw [if_pos h]
    rcases (show j = 0 ∨ j = 1 ∨ j = 2 ∨ j = 3 ∨ j = 4 ∨ j = 5 by omega) with rfl | rfl | rfl | rfl | rfl | rfl <;> rfl
  · rw [if_neg h, if_neg (by omega), if_neg (by omega), if_neg (by omega), if_neg (by omega), if_neg (by omega), if_neg (by omega)]
section WLD
variable {D : va_G} {cA : Nat → ClassId} {H : Heap} {q0 q1 : Nat} {f g t : Nat → Nat}
/-- the world's cell k, as the constructors leave it, is the cell k of the numbers -/
def WOK (D : va_G) (cA : Nat → ClassId) (H : Heap) (q0 q1 : Nat) (f g t : Nat → Nat) (k : Nat) : Prop := ∃ e : va_E, (WX11 cA q0 f ++ WX12 cA q1 g)[k]? = some (AD q0 q1 f g t k, e) ∧ (va_P D vwCl (WX11 cA q0 f ++ WX12 cA q1 g) H → va_at D vwCl (AD q0 q1 f g t k, mkE (AD q0 q1 f g t) cA (hz k) (LY.getD k (9, 0, []))) H)
theorem wk_0 : WOK D cA H q0 q1 f g t 0 := by
  refine ⟨_, rfl, fun hP => ?_⟩
  have q := hP 0 _ rfl
  rw [mk_o (kd := LY.getD 0 (9, 0, [])) (ci := 11) (sl := [4, 9, 13, 15, 24, 29, 38, 43, 46, 49, 0]) rfl]
  exact q
theorem wk_1 : WOK D cA H q0 q1 f g t 1 := by
  refine ⟨_, rfl, fun hP => ?_⟩
  have q := hP 1 _ rfl
  rw [mk_o (kd := LY.getD 1 (9, 0, [])) (ci := 6) (sl := [5, 6, 7, 8, 0]) rfl]
  exact q
theorem wk_2 : WOK D cA H q0 q1 f g t 2 := by
  refine ⟨_, rfl, fun hP => ?_⟩
  have q := hP 2 _ rfl
  exact q
theorem wk_3 : WOK D cA H q0 q1 f g t 3 := by
  refine ⟨_, rfl, fun hP => ?_⟩
  have q := hP 3 _ rfl
  exact q
theorem wk_4 : WOK D cA H q0 q1 f g t 4 := by
  refine ⟨_, rfl, fun hP => ?_⟩
  have q := hP 4 _ rfl
  exact q
theorem wk_5 : WOK D cA H q0 q1 f g t 5 := by
  refine ⟨_, rfl, fun hP => ?_⟩
  have q := hP 5 _ rfl
  exact q
theorem wk_6 : WOK D cA H q0 q1 f g t 6 := by
  refine ⟨_, rfl, fun hP => ?_⟩
  have q := hP 6 _ rfl
  rw [mk_o (kd := LY.getD 6 (9, 0, [])) (ci := 9) (sl := [10, 11, 12, 0]) rfl]
  exact q
theorem wk_7 : WOK D cA H q0 q1 f g t 7 := by
  refine ⟨_, rfl, fun hP => ?_⟩
  have q := hP 7 _ rfl
  rw [up_1] at q
  exact q
theorem wk_8 : WOK D cA H q0 q1 f g t 8 := by
  refine ⟨_, rfl, fun hP => ?_⟩
  have q := hP 8 _ rfl
  exact q
theorem wk_9 : WOK D cA H q0 q1 f g t 9 := by
  refine ⟨_, rfl, fun hP => ?_⟩
  have q := hP 9 _ rfl
  exact q
theorem wk_10 : WOK D cA H q0 q1 f g t 10 := by
  refine ⟨_, rfl, fun hP => ?_⟩
  have q := hP 10 _ rfl
  rw [mk_o (kd := LY.getD 10 (9, 0, [])) (ci := 4) (sl := [14, 0]) rfl]
  exact q
theorem wk_11 : WOK D cA H q0 q1 f g t 11 := by
  refine ⟨_, rfl, fun hP => ?_⟩
  have q := hP 11 _ rfl
  exact q
theorem wk_12 : WOK D cA H q0 q1 f g t 12 := by
  refine ⟨_, rfl, fun hP => ?_⟩
  have q := hP 12 _ rfl
  rw [mk_o (kd := LY.getD 12 (9, 0, [])) (ci := 7) (sl := [9, 13, 16, 17, 18, 19, 20, 21, 22, 23, 0]) rfl]
  exact q
theorem wk_13 : WOK D cA H q0 q1 f g t 13 := by
  refine ⟨_, rfl, fun hP => ?_⟩
  have q := hP 13 _ rfl
  exact q
theorem wk_14 : WOK D cA H q0 q1 f g t 14 := by
  refine ⟨_, rfl, fun hP => ?_⟩
  have q := hP 14 _ rfl
  exact q
theorem wk_15 : WOK D cA H q0 q1 f g t 15 := by
  refine ⟨_, rfl, fun hP => ?_⟩
  have q := hP 15 _ rfl
  exact q
theorem wk_16 : WOK D cA H q0 q1 f g t 16 := by
  refine ⟨_, rfl, fun hP => ?_⟩
  have q := hP 16 _ rfl
  exact q
theorem wk_17 : WOK D cA H q0 q1 f g t 17 := by
  refine ⟨_, rfl, fun hP => ?_⟩
  have q := hP 17 _ rfl
  exact q
theorem wk_18 : WOK D cA H q0 q1 f g t 18 := by
  refine ⟨_, rfl, fun hP => ?_⟩
  have q := hP 18 _ rfl
  exact q
theorem wk_19 : WOK D cA H q0 q1 f g t 19 := by
  refine ⟨_, rfl, fun hP => ?_⟩
  have q := hP 19 _ rfl
  exact q
theorem wk_20 : WOK D cA H q0 q1 f g t 20 := by
  refine ⟨_, rfl, fun hP => ?_⟩
  have q := hP 20 _ rfl
  exact q
theorem wk_21 : WOK D cA H q0 q1 f g t 21 := by
  refine ⟨_, rfl, fun hP => ?_⟩
  have q := hP 21 _ rfl
  rw [mk_o (kd := LY.getD 21 (9, 0, [])) (ci := 3) (sl := [15, 9, 25, 26, 27, 28, 0, 0]) rfl]
  exact q
theorem wk_22 : WOK D cA H q0 q1 f g t 22 := by
  refine ⟨_, rfl, fun hP => ?_⟩
  have q := hP 22 _ rfl
  exact q
theorem wk_23 : WOK D cA H q0 q1 f g t 23 := by
  refine ⟨_, rfl, fun hP => ?_⟩
  have q := hP 23 _ rfl
  exact q
theorem wk_24 : WOK D cA H q0 q1 f g t 24 := by
  refine ⟨_, rfl, fun hP => ?_⟩
  have q := hP 24 _ rfl
  exact q
theorem wk_25 : WOK D cA H q0 q1 f g t 25 := by
  refine ⟨_, rfl, fun hP => ?_⟩
  have q := hP 25 _ rfl
  exact q
theorem wk_26 : WOK D cA H q0 q1 f g t 26 := by
  refine ⟨_, rfl, fun hP => ?_⟩
  have q := hP 26 _ rfl
  rw [mk_o (kd := LY.getD 26 (9, 0, [])) (ci := 5) (sl := [30, 31, 32, 37, 0, 0, 2, 0, 0, 0]) rfl]
  exact q
theorem wk_27 : WOK D cA H q0 q1 f g t 27 := by
  refine ⟨_, rfl, fun hP => ?_⟩
  have q := hP 27 _ rfl
  exact q
theorem wk_28 : WOK D cA H q0 q1 f g t 28 := by
  refine ⟨_, rfl, fun hP => ?_⟩
  have q := hP 28 _ rfl
  exact q
theorem wk_29 : WOK D cA H q0 q1 f g t 29 := by
  refine ⟨_, rfl, fun hP => ?_⟩
  have q := hP 29 _ rfl
  have q : H[f 28]? = some (arrV (cA 3) 4 (fun j => va_rf (some ([f 29, f 30, f 31, f 32].getD j 0)))) := q
  show H[f 28]? = some (arrV (cA 3) 4 (fun j => va_rf (some (AD q0 q1 f g t ([30, 31, 32, 33].getD j 0)))))
  rw [q]
  exact congrArg some (arrV_cong (fun j hj => by rcases (show j = 0 ∨ j = 1 ∨ j = 2 ∨ j = 3 by omega) with rfl | rfl | rfl | rfl <;> rfl))
theorem wk_30 : WOK D cA H q0 q1 f g t 30 := by
  refine ⟨_, rfl, fun hP => ?_⟩
  have q := hP 30 _ rfl
  exact q
theorem wk_31 : WOK D cA H q0 q1 f g t 31 := by
  refine ⟨_, rfl, fun hP => ?_⟩
  have q := hP 31 _ rfl
  exact q
theorem wk_32 : WOK D cA H q0 q1 f g t 32 := by
  refine ⟨_, rfl, fun hP => ?_⟩
  have q := hP 32 _ rfl
  exact q
theorem wk_33 : WOK D cA H q0 q1 f g t 33 := by
  refine ⟨_, rfl, fun hP => ?_⟩
  have q := hP 33 _ rfl
  exact q
theorem wk_34 : WOK D cA H q0 q1 f g t 34 := by
  refine ⟨_, rfl, fun hP => ?_⟩
  have q := hP 34 _ rfl
  exact q
theorem wk_35 : WOK D cA H q0 q1 f g t 35 := by
  refine ⟨_, rfl, fun hP => ?_⟩
  have q := hP 35 _ rfl
  rw [mk_o (kd := LY.getD 35 (9, 0, [])) (ci := 2) (sl := [15, 42, 39, 40, 41]) rfl]
  exact q
theorem wk_36 : WOK D cA H q0 q1 f g t 36 := by
  refine ⟨_, rfl, fun hP => ?_⟩
  have q := hP 36 _ rfl
  exact q
theorem wk_37 : WOK D cA H q0 q1 f g t 37 := by
  refine ⟨_, rfl, fun hP => ?_⟩
  have q := hP 37 _ rfl
  exact q
theorem wk_38 : WOK D cA H q0 q1 f g t 38 := by
  refine ⟨_, rfl, fun hP => ?_⟩
  have q := hP 38 _ rfl
  exact q
theorem wk_39 : WOK D cA H q0 q1 f g t 39 := by
  refine ⟨_, rfl, fun hP => ?_⟩
  have q := hP 39 _ rfl
  rw [mk_o (kd := LY.getD 39 (9, 0, [])) (ci := 10) (sl := [1, 1, 0, 0]) rfl]
  exact q
theorem wk_40 : WOK D cA H q0 q1 f g t 40 := by
  refine ⟨_, rfl, fun hP => ?_⟩
  have q := hP 40 _ rfl
  rw [mk_o (kd := LY.getD 40 (9, 0, [])) (ci := 1) (sl := [44, 45, 0]) rfl]
  exact q
theorem wk_41 : WOK D cA H q0 q1 f g t 41 := by
  refine ⟨_, rfl, fun hP => ?_⟩
  have q := hP 41 _ rfl
  exact q
theorem wk_42 : WOK D cA H q0 q1 f g t 42 := by
  refine ⟨_, rfl, fun hP => ?_⟩
  have q := hP 42 _ rfl
  exact q
theorem wk_43 : WOK D cA H q0 q1 f g t 43 := by
  refine ⟨_, rfl, fun hP => ?_⟩
  have q := hP 43 _ rfl
  rw [mk_o (kd := LY.getD 43 (9, 0, [])) (ci := 0) (sl := [47, 48, 0, 0]) rfl]
  exact q
theorem wk_44 : WOK D cA H q0 q1 f g t 44 := by
  refine ⟨_, rfl, fun hP => ?_⟩
  have q := hP 44 _ rfl
  exact q
theorem wk_45 : WOK D cA H q0 q1 f g t 45 := by
  refine ⟨_, rfl, fun hP => ?_⟩
  have q := hP 45 _ rfl
  exact q
theorem wk_46 : WOK D cA H q0 q1 f g t 46 := by
  refine ⟨_, rfl, fun hP => ?_⟩
  have q := hP 46 _ rfl
  rw [mk_o (kd := LY.getD 46 (9, 0, [])) (ci := 8) (sl := [50, 51, 52, 53]) rfl]
  exact q
theorem wk_47 : WOK D cA H q0 q1 f g t 47 := by
  refine ⟨_, rfl, fun hP => ?_⟩
  have q := hP 47 _ rfl
  rw [up_6] at q
  exact q
theorem wk_48 : WOK D cA H q0 q1 f g t 48 := by
  refine ⟨_, rfl, fun hP => ?_⟩
  have q := hP 48 _ rfl
  exact q
theorem wk_49 : WOK D cA H q0 q1 f g t 49 := by
  refine ⟨_, rfl, fun hP => ?_⟩
  have q := hP 49 _ rfl
  exact q
theorem wk_50 : WOK D cA H q0 q1 f g t 50 := by
  refine ⟨_, rfl, fun hP => ?_⟩
  have q := hP 50 _ rfl
  have q : H[f 49]? = some (arrV (cA 4) 6 (fun j => va_rf (some ([f 50, f 51, f 52, f 53, f 54, f 55].getD j 0)))) := q
  show H[f 49]? = some (arrV (cA 4) 6 (fun j => va_rf (some (AD q0 q1 f g t ([51, 52, 53, 54, 55, 56].getD j 0)))))
  rw [q]
  exact congrArg some (arrV_cong (fun j hj => by rcases (show j = 0 ∨ j = 1 ∨ j = 2 ∨ j = 3 ∨ j = 4 ∨ j = 5 by omega) with rfl | rfl | rfl | rfl | rfl | rfl <;> rfl))
theorem wk_51 : WOK D cA H q0 q1 f g t 51 := by
  refine ⟨_, rfl, fun hP => ?_⟩
  have q := hP 51 _ rfl
  exact q
theorem wk_52 : WOK D cA H q0 q1 f g t 52 := by
  refine ⟨_, rfl, fun hP => ?_⟩
  have q := hP 52 _ rfl
  exact q
theorem wk_53 : WOK D cA H q0 q1 f g t 53 := by
  refine ⟨_, rfl, fun hP => ?_⟩
  have q := hP 53 _ rfl
  exact q
theorem wk_54 : WOK D cA H q0 q1 f g t 54 := by
  refine ⟨_, rfl, fun hP => ?_⟩
  have q := hP 54 _ rfl
  exact q
theorem wk_55 : WOK D cA H q0 q1 f g t 55 := by
  refine ⟨_, rfl, fun hP => ?_⟩
  have q := hP 55 _ rfl
  exact q
theorem wk_56 : WOK D cA H q0 q1 f g t 56 := by
  refine ⟨_, rfl, fun hP => ?_⟩
  have q := hP 56 _ rfl
  exact q
theorem wk_57 : WOK D cA H q0 q1 f g t 57 := by
  refine ⟨_, rfl, fun hP => ?_⟩
  have q := hP 57 _ rfl
  rw [mk_o (kd := LY.getD 57 (9, 0, [])) (ci := 12) (sl := [61, 62, 63, 64, 65, 66, 67, 68, 69, 70, 71, 72, 73, 0, 0, 0, 0, 0, 74, 75, 76, 77, 0, 0, 78, 79, 80, 81, 82, 0, 0, 0, 0, 0, 0, 0, 0, 83, 0, 0, 0, 0, 0, 0, 0, 0, 84, 85, 86, 0, 87, 88, 0, 0, 89, 90, 91, 92, 93]) rfl]
  exact q
theorem wk_58 : WOK D cA H q0 q1 f g t 58 := by
  refine ⟨_, rfl, fun hP => ?_⟩
  have q := hP 58 _ rfl
  exact q
theorem wk_59 : WOK D cA H q0 q1 f g t 59 := by
  refine ⟨_, rfl, fun hP => ?_⟩
  have q := hP 59 _ rfl
  exact q
theorem wk_60 : WOK D cA H q0 q1 f g t 60 := by
  refine ⟨_, rfl, fun hP => ?_⟩
  have q := hP 60 _ rfl
  exact q
theorem wk_61 : WOK D cA H q0 q1 f g t 61 := by
  refine ⟨_, rfl, fun hP => ?_⟩
  have q := hP 61 _ rfl
  exact q
theorem wk_62 : WOK D cA H q0 q1 f g t 62 := by
  refine ⟨_, rfl, fun hP => ?_⟩
  have q := hP 62 _ rfl
  rw [up_1] at q
  exact q
theorem wk_63 : WOK D cA H q0 q1 f g t 63 := by
  refine ⟨_, rfl, fun hP => ?_⟩
  have q := hP 63 _ rfl
  exact q
theorem wk_64 : WOK D cA H q0 q1 f g t 64 := by
  refine ⟨_, rfl, fun hP => ?_⟩
  have q := hP 64 _ rfl
  exact q
theorem wk_65 : WOK D cA H q0 q1 f g t 65 := by
  refine ⟨_, rfl, fun hP => ?_⟩
  have q := hP 65 _ rfl
  exact q
theorem wk_66 : WOK D cA H q0 q1 f g t 66 := by
  refine ⟨_, rfl, fun hP => ?_⟩
  have q := hP 66 _ rfl
  exact q
theorem wk_67 : WOK D cA H q0 q1 f g t 67 := by
  refine ⟨_, rfl, fun hP => ?_⟩
  have q := hP 67 _ rfl
  exact q
theorem wk_68 : WOK D cA H q0 q1 f g t 68 := by
  refine ⟨_, rfl, fun hP => ?_⟩
  have q := hP 68 _ rfl
  exact q
theorem wk_69 : WOK D cA H q0 q1 f g t 69 := by
  refine ⟨_, rfl, fun hP => ?_⟩
  have q := hP 69 _ rfl
  exact q
theorem wk_70 : WOK D cA H q0 q1 f g t 70 := by
  refine ⟨_, rfl, fun hP => ?_⟩
  have q := hP 70 _ rfl
  exact q
theorem wk_71 : WOK D cA H q0 q1 f g t 71 := by
  refine ⟨_, rfl, fun hP => ?_⟩
  have q := hP 71 _ rfl
  exact q
theorem wk_72 : WOK D cA H q0 q1 f g t 72 := by
  refine ⟨_, rfl, fun hP => ?_⟩
  have q := hP 72 _ rfl
  exact q
theorem wk_73 : WOK D cA H q0 q1 f g t 73 := by
  refine ⟨_, rfl, fun hP => ?_⟩
  have q := hP 73 _ rfl
  exact q
theorem wk_74 : WOK D cA H q0 q1 f g t 74 := by
  refine ⟨_, rfl, fun hP => ?_⟩
  have q := hP 74 _ rfl
  exact q
theorem wk_75 : WOK D cA H q0 q1 f g t 75 := by
  refine ⟨_, rfl, fun hP => ?_⟩
  have q := hP 75 _ rfl
  exact q
theorem wk_76 : WOK D cA H q0 q1 f g t 76 := by
  refine ⟨_, rfl, fun hP => ?_⟩
  have q := hP 76 _ rfl
  exact q
theorem wk_77 : WOK D cA H q0 q1 f g t 77 := by
  refine ⟨_, rfl, fun hP => ?_⟩
  have q := hP 77 _ rfl
  exact q
theorem wk_78 : WOK D cA H q0 q1 f g t 78 := by
  refine ⟨_, rfl, fun hP => ?_⟩
  have q := hP 78 _ rfl
  exact q
theorem wk_79 : WOK D cA H q0 q1 f g t 79 := by
  refine ⟨_, rfl, fun hP => ?_⟩
  have q := hP 79 _ rfl
  exact q
theorem wk_80 : WOK D cA H q0 q1 f g t 80 := by
  refine ⟨_, rfl, fun hP => ?_⟩
  have q := hP 80 _ rfl
  exact q
theorem wk_81 : WOK D cA H q0 q1 f g t 81 := by
  refine ⟨_, rfl, fun hP => ?_⟩
  have q := hP 81 _ rfl
  exact q
theorem wk_82 : WOK D cA H q0 q1 f g t 82 := by
  refine ⟨_, rfl, fun hP => ?_⟩
  have q := hP 82 _ rfl
  exact q
theorem wk_83 : WOK D cA H q0 q1 f g t 83 := by
  refine ⟨_, rfl, fun hP => ?_⟩
  have q := hP 83 _ rfl
  exact q
theorem wk_84 : WOK D cA H q0 q1 f g t 84 := by
  refine ⟨_, rfl, fun hP => ?_⟩
  have q := hP 84 _ rfl
  exact q
theorem wk_85 : WOK D cA H q0 q1 f g t 85 := by
  refine ⟨_, rfl, fun hP => ?_⟩
  have q := hP 85 _ rfl
  exact q
theorem wk_86 : WOK D cA H q0 q1 f g t 86 := by
  refine ⟨_, rfl, fun hP => ?_⟩
  have q := hP 86 _ rfl
  rw [up_6] at q
  exact q
theorem wk_87 : WOK D cA H q0 q1 f g t 87 := by
  refine ⟨_, rfl, fun hP => ?_⟩
  have q := hP 87 _ rfl
  exact q
theorem wk_88 : WOK D cA H q0 q1 f g t 88 := by
  refine ⟨_, rfl, fun hP => ?_⟩
  have q := hP 88 _ rfl
  exact q
theorem wk_89 : WOK D cA H q0 q1 f g t 89 := by
  refine ⟨_, rfl, fun hP => ?_⟩
  have q := hP 89 _ rfl
  exact q
theorem wk_90 : WOK D cA H q0 q1 f g t 90 := by
  refine ⟨_, rfl, fun hP => ?_⟩
  have q := hP 90 _ rfl
  exact q
theorem wk_all (k : Nat) (hk : k < 91) : WOK D cA H q0 q1 f g t k := by
  rcases (show (0 ≤ k ∧ k < 20) ∨ (20 ≤ k ∧ k < 40) ∨ (40 ≤ k ∧ k < 60) ∨ (60 ≤ k ∧ k < 80) ∨ (80 ≤ k ∧ k < 91) by omega) with ⟨h1, h2⟩ | ⟨h1, h2⟩ | ⟨h1, h2⟩ | ⟨h1, h2⟩ | ⟨h1, h2⟩
  · rcases (show k = 0 ∨ k = 1 ∨ k = 2 ∨ k = 3 ∨ k = 4 ∨ k = 5 ∨ k = 6 ∨ k = 7 ∨ k = 8 ∨ k = 9 ∨ k = 10 ∨ k = 11 ∨ k = 12 ∨ k = 13 ∨ k = 14 ∨ k = 15 ∨ k = 16 ∨ k = 17 ∨ k = 18 ∨ k = 19 by omega) with rfl | rfl | rfl | rfl | rfl | rfl | rfl | rfl | rfl | rfl | rfl | rfl | rfl | rfl | rfl | rfl | rfl | rfl | rfl | rfl
    · exact wk_0
    · exact wk_1
    · exact wk_2
    · exact wk_3
    · exact wk_4
    · exact wk_5
    · exact wk_6
    · exact wk_7
    · exact wk_8
    · exact wk_9
    · exact wk_10
    · exact wk_11
    · exact wk_12
    · exact wk_13
    · exact wk_14
    · exact wk_15
    · exact wk_16
    · exact wk_17
    · exact wk_18
    · exact wk_19
  · rcases (show k = 20 ∨ k = 21 ∨ k = 22 ∨ k = 23 ∨ k = 24 ∨ k = 25 ∨ k = 26 ∨ k = 27 ∨ k = 28 ∨ k = 29 ∨ k = 30 ∨ k = 31 ∨ k = 32 ∨ k = 33 ∨ k = 34 ∨ k = 35 ∨ k = 36 ∨ k = 37 ∨ k = 38 ∨ k = 39 by omega) with rfl | rfl | rfl | rfl | rfl | rfl | rfl | rfl | rfl | rfl | rfl | rfl | rfl | rfl | rfl | rfl | rfl | rfl | rfl | rfl
    · exact wk_20
    · exact wk_21
    · exact wk_22
    · exact wk_23
    · exact wk_24
    · exact wk_25
    · exact wk_26
    · exact wk_27
    · exact wk_28
    · exact wk_29
    · exact wk_30
    · exact wk_31
    · exact wk_32
    · exact wk_33
    · exact wk_34
    · exact wk_35
    · exact wk_36
    · exact wk_37
    · exact wk_38
    · exact wk_39
  · rcases (show k = 40 ∨ k = 41 ∨ k = 42 ∨ k = 43 ∨ k = 44 ∨ k = 45 ∨ k = 46 ∨ k = 47 ∨ k = 48 ∨ k = 49 ∨ k = 50 ∨ k = 51 ∨ k = 52 ∨ k = 53 ∨ k = 54 ∨ k = 55 ∨ k = 56 ∨ k = 57 ∨ k = 58 ∨ k = 59 by omega) with rfl | rfl | rfl | rfl | rfl | rfl | rfl | rfl | rfl | rfl | rfl | rfl | rfl | rfl | rfl | rfl | rfl | rfl | rfl | rfl
    · exact wk_40
    · exact wk_41
    · exact wk_42
    · exact wk_43
    · exact wk_44
    · exact wk_45
    · exact wk_46
    · exact wk_47
    · exact wk_48
    · exact wk_49
    · exact wk_50
    · exact wk_51
    · exact wk_52
    · exact wk_53
    · exact wk_54
    · exact wk_55
    · exact wk_56
    · exact wk_57
    · exact wk_58
    · exact wk_59
  · rcases (show k = 60 ∨ k = 61 ∨ k = 62 ∨ k = 63 ∨ k = 64 ∨ k = 65 ∨ k = 66 ∨ k = 67 ∨ k = 68 ∨ k = 69 ∨ k = 70 ∨ k = 71 ∨ k = 72 ∨ k = 73 ∨ k = 74 ∨ k = 75 ∨ k = 76 ∨ k = 77 ∨ k = 78 ∨ k = 79 by omega) with rfl | rfl | rfl | rfl | rfl | rfl | rfl | rfl | rfl | rfl | rfl | rfl | rfl | rfl | rfl | rfl | rfl | rfl | rfl | rfl
    · exact wk_60
    · exact wk_61
    · exact wk_62
    · exact wk_63
    · exact wk_64
    · exact wk_65
    · exact wk_66
    · exact wk_67
    · exact wk_68
    · exact wk_69
    · exact wk_70
    · exact wk_71
    · exact wk_72
    · exact wk_73
    · exact wk_74
    · exact wk_75
    · exact wk_76
    · exact wk_77
    · exact wk_78
    · exact wk_79
  · rcases (show k = 80 ∨ k = 81 ∨ k = 82 ∨ k = 83 ∨ k = 84 ∨ k = 85 ∨ k = 86 ∨ k = 87 ∨ k = 88 ∨ k = 89 ∨ k = 90 by omega) with rfl | rfl | rfl | rfl | rfl | rfl | rfl | rfl | rfl | rfl | rfl
    · exact wk_80
    · exact wk_81
    · exact wk_82
    · exact wk_83
    · exact wk_84
    · exact wk_85
    · exact wk_86
    · exact wk_87
    · exact wk_88
    · exact wk_89
    · exact wk_90
theorem ws_P {l : Launch} (hP : va_P D vwCl (WX11 cA q0 f ++ WX12 cA q1 g) H) : va_P D vwCl (wld (l, D, AD q0 q1 f g t, cA) hz) H := by
  intro k q hq
  have hk : k < 91 := (wld_lt hq).1
  obtain ⟨e, h1, h2⟩ := wk_all (D := D) (cA := cA) (H := H) (q0 := q0) (q1 := q1) (f := f) (g := g) (t := t) k hk
  have h3 := h2 hP
  unfold wld at hq
  rw [List.getElem?_map, List.getElem?_range hk] at hq
  simp only [Option.map_some, Option.some.injEq] at hq
  rw [← hq]
  exact h3
theorem ws_D {l : Launch} {A : Nat → Prop} (hD : va_D A (WX11 cA q0 f ++ WX12 cA q1 g)) : DK (l, D, AD q0 q1 f g t, cA) ∧ ∀ q, AA (l, D, AD q0 q1 f g t, cA) q → A q := by
  have key : ∀ k, k < 91 → ∃ e : va_E, (WX11 cA q0 f ++ WX12 cA q1 g)[k]? = some (AD q0 q1 f g t k, e) := fun k hk => by
    obtain ⟨e, h1, -⟩ := wk_all (D := D) (cA := cA) (H := #[]) (q0 := q0) (q1 := q1) (f := f) (g := g) (t := t) k hk
    exact ⟨e, h1⟩
  refine ⟨fun i j hi hj hij => ?_, fun q hq => ?_⟩
  · obtain ⟨e1, h1⟩ := key i hi
    obtain ⟨e2, h2⟩ := key j hj
    exact hD.1 i j _ _ h1 h2 hij
  · obtain ⟨k, hk, rfl⟩ := hq
    obtain ⟨e, h⟩ := key k hk
    exact hD.2 k _ h
end WLD
