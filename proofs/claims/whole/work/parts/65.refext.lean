/-! the reference's search is the extreme -/
theorem range_getD : ∀ L : List Int, (List.range L.length).map (fun i => L.getD (0 + i) 0) = L
  | [] => rfl
  | v :: l => by
    rw [List.length_cons, List.range_succ_eq_map, List.map_cons, List.map_map]
    have q := range_getD l
    congr 1
def xV (t : T4) (L : List Int) (q : Nat) : Int := if t.2.2.1 + L.length - ((sbV q L).2 : Int) = 0 ∨ t.2.2.2 + ((sbV q L).2 : Int) = 0 then NO else GV t (tsum L.length L) L.length (sbV q L).1 (sbV q L).2
theorem stS_eq {t : T4} {L : List Int} {b f : Int} {q : Nat} (hl : L.length ≤ 12) (hq : q < 4096) (hb : b = 0 ∨ b = 1) : stS t L.length (fun j => L.getD j 0) b q f = fur (b = 1) f (xV t L q) := by
  unfold stS
  rw [us_state _ hq L.length 0 _ (by omega), Nat.pow_zero, Nat.div_one, range_getD]
  unfold stV xV GV
  simp only [Int.zero_add]
  by_cases z : t.2.2.1 + L.length - ((sbV q L).2 : Int) = 0 ∨ t.2.2.2 + ((sbV q L).2 : Int) = 0
  · rw [if_pos z, if_pos z]
    unfold fur
    by_cases y : f = -2000000000
    · rw [if_pos y, y]
    · rw [if_neg y, if_pos rfl]
  · rw [if_neg z, if_neg z]
    generalize besF _ _ _ _ = v
    unfold fur lsF gtF
    rcases hb with w | w
    · subst w
      rw [if_pos rfl]
      (repeat' split) <;> omega
    · subst w
      rw [if_neg (by decide)]
      (repeat' split) <;> omega
theorem stS_ext {t : T4} {L : List Int} {b B : Int} (H : TI t B) (hx : ∀ x ∈ L, 5 ≤ x ∧ x ≤ 59998) (hl : L.length ≤ 12) (hb : b = 0 ∨ b = 1) : Ext (b = 1) (GP t L (tsum L.length L)) (lp (stS t L.length (fun j => L.getD j 0) b) (2 ^ L.length) 0 NO) := by
  have h2 : 2 ^ L.length ≤ 4096 := Nat.le_trans (Nat.pow_le_pow_right (by decide) hl) (by decide)
  rw [lp_congr (g := fun j r => fur (b = 1) r (xV t L j)) _ _ _ (fun j _ hj s => stS_eq hl (by omega) hb)]
  have q := Ext.lpE (g := b = 1) (dg := inferInstance) (x := xV t L) (2 ^ L.length) 0 (fun _ => False) NO (Or.inl ⟨rfl, fun v w => w⟩) (fun v w => absurd w id)
  refine q.iff (fun v => ⟨fun w => ?_, fun w => ?_⟩)
  · rcases w with w | ⟨j, _, h1, h3, h4⟩
    · exact absurd w id
    · have s := sbV_sb L j
      by_cases z : t.2.2.1 + L.length - ((sbV j L).2 : Int) = 0 ∨ t.2.2.2 + ((sbV j L).2 : Int) = 0
      · exact absurd (by unfold xV; rw [if_pos z]) h4
      · exact ⟨_, _, s, z, by rw [h3]; unfold xV; rw [if_neg z]⟩
  · obtain ⟨s, c, h1, h3, h4⟩ := w
    obtain ⟨j, hj, e⟩ := sb_sbV h1
    have ex : xV t L j = v := by
      unfold xV
      rw [e, h4]
      exact if_neg h3
    refine Or.inr ⟨j, Nat.zero_le _, by omega, ex.symm, ?_⟩
    rw [ex, h4]
    have a := h1.ti H hx
    unfold GC at h3
    have l := h1.len
    obtain ⟨a1, a2, a3, a4, a5, a6, a7⟩ := H
    have bb := besF_in a (by simp only; omega) (by simp only; omega)
    simp only at bb
    unfold GV
    have e : NO = -2000000000 := rfl
    omega
