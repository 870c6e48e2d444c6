/-! THE START: the numbers of the world -/
def hz : Hp := fun k j => if k = 0 then (if j = 10 then 100 else 0) else if k = 6 then (if j = 3 then 1 else 0) else if k = 7 then (if j = 0 then 20 else 0) else if k = 26 then (if j = 6 then 28 else 0) else if k = 47 then (if j < 6 then 6 else 0) else if k = 57 then (if j = 14 then 1 else if j = 17 then 100 else 0) else if k = 62 then (if j = 0 then 20 else 0) else if k = 86 then (if j < 6 then -2 else 0) else 0
theorem hz_in (k j : Nat) : -2 ≤ hz k j ∧ hz k j ≤ 100 := by
  unfold hz
  repeat' split
  all_goals omega
theorem okr_of {kd : LK} {j : Nat} {v : Int} (h : -2 ≤ v ∧ v ≤ 100) : okr kd j v := by
  obtain ⟨h1, h2⟩ := h
  unfold okr
  split
  · split
    · unfold inI; omega
    · unfold inL; omega
    · trivial
  · unfold inI; omega
  · unfold inB; omega
  · unfold inL; omega
  · trivial
theorem HOK_hz : HOK hz := fun k kd _ j => okr_of (hz_in k j)
theorem b255_0 : b255 0 = 0 := by decide +kernel
theorem hz_47 {s : Nat} (h : s < 6) : hz 47 s = 6 := by
  show (if s < 6 then (6 : Int) else 0) = 6
  rw [if_pos h]
theorem hz_86 {s : Nat} (h : s < 6) : hz 86 s = -2 := by
  show (if s < 6 then (-2 : Int) else 0) = -2
  rw [if_pos h]
theorem RLL_hz : RLL hz hz := by
  have a : RlA hz hz := ⟨rfl, by decide, by decide⟩
  have i : IXa hz := by
    refine ⟨⟨by decide, by decide, fun r hr => ?_⟩, ⟨by decide, by decide, fun r hr => ?_⟩, ⟨by decide, by decide, fun r hr => ?_⟩, ⟨by decide, by decide, fun r hr => ?_⟩⟩
    · exact absurd hr (by show ¬ (r : Int) < 0; omega)
    · have hr : (r : Int) < 1 := hr
      obtain rfl : r = 0 := by omega
      decide
    · exact absurd hr (by show ¬ (r : Int) < 0; omega)
    · exact absurd hr (by show ¬ (r : Int) < 0; omega)
  have b : RlB hz hz := ⟨⟨rfl, rfl, rfl, rfl, rfl⟩, ⟨rfl, rfl, rfl, rfl⟩, ⟨rfl, rfl⟩, ⟨rfl, rfl, rfl, rfl, rfl, rfl⟩, i, KO.zero _ _ _, KO.zero _ _ _⟩
  have c : RlC (hz 12 10) (hz 6 3) hz hz := ⟨rfl, rfl, by decide, by decide, by decide, ⟨rfl, rfl, rfl, rfl⟩, fun r hr => absurd hr (by show ¬ (r : Int) < 0; omega)⟩
  have d : RlD hz hz := ⟨rfl, by decide, by decide, fun j => b255_0.symm, rfl, by decide, by decide, fun l hl => ⟨by show (0 : Int) ≤ 0; omega, by show (0 : Int) ≤ 121 * (l : Int); omega⟩, fun l hl => absurd hl (by show ¬ (l : Int) < 0; omega)⟩
  have e : RlE hz hz := ⟨rfl, rfl, rfl, by decide, by decide, fun r hr => absurd hr (by show ¬ (r : Int) < 0; omega), fun r hr => absurd hr (by show ¬ (r : Int) + 1 < 0; omega)⟩
  have f : RlF hz hz := ⟨rfl, by decide, by decide, rfl, fun r hr => absurd hr (by show ¬ (r : Int) < 0; omega), rfl, by decide, rfl⟩
  have g : RlG (hz 43 2) hz hz := by
    refine ⟨fun s hs => ?_, fun s hs => ?_, rfl, fun s hs => Or.inl ⟨hz_47 hs, hz_86 hs⟩, fun s j hs hj => ?_⟩
    · rw [hz_47 hs, show hz 49 s = 0 from rfl]
      omega
    · rw [hz_86 hs, show hz 88 s = 0 from rfl]
      omega
    · have e : hz (51 + s) j = 0 := by
        rcases (show s = 0 ∨ s = 1 ∨ s = 2 ∨ s = 3 ∨ s = 4 ∨ s = 5 by omega) with rfl | rfl | rfl | rfl | rfl | rfl <;> rfl
      rw [e]
      rfl
  exact ⟨a, b, c, d, e, f, g⟩
