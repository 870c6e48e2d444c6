/-! a race: the reference -/
def tokL (h : Hp) (l : Int) : List Int := (List.range ((h 77 (l + 1).toNat - h 77 l.toNat).toNat)).map (fun i => h 76 ((h 77 l.toNat).toNat + i))
theorem tokL_len (h : Hp) (l : Int) : (tokL h l).length = (h 77 (l + 1).toNat - h 77 l.toNat).toNat := by unfold tokL; simp
theorem tokL_get (h : Hp) (l : Int) (i : Nat) (hi : i < (tokL h l).length) : h 76 ((h 77 l.toNat).toNat + i) = (tokL h l).getD i 0 := by
  rw [tokL_len] at hi
  unfold tokL
  rw [List.getD_eq_getElem?_getD, List.getElem?_map, List.getElem?_range hi]
  rfl
/-- a law that can be worked out -/
def okL (h : Hp) (l : Int) : Prop := 0 ≤ h 77 l.toNat ∧ h 77 l.toNat ≤ h 77 (l + 1).toNat ∧ h 77 (l + 1).toNat ≤ 600 ∧ okT (tokL h l) 0 ∧ (tokL h l).length ≤ 125
def mrc (k j : Nat) : Bool := mscr k j || (k == 57 && j == 16) || (decide (66 ≤ k) && decide (k ≤ 70))
theorem EP.wd {P Q : Nat → Nat → Bool} {h h1 : Hp} (e : EP P h h1) (hs : ∀ k j, Q k j = false → P k j = false) : EP Q h h1 := fun k j z => e k j (hs k j z)
theorem EP.toR {h h1 : Hp} (e : EP mscr h h1) : EP mrc h h1 := e.wd (fun k j z => by
  cases q : mscr k j with
  | false => rfl
  | true => simp [mrc, q] at z)
def cmM (h : Hp) (a b c d e : Int) : Hp := hset (hset (hset (hset (hset (hset h 66 (h 57 16).toNat a) 67 (h 57 16).toNat b) 68 (h 57 16).toNat c) 69 (h 57 16).toNat d) 70 (h 57 16).toNat e) 57 16 (h 57 16 + 1)
theorem cmM_ep (h : Hp) (a b c d e : Int) : EP mrc h (cmM h a b c d e) := ((((((EP.rf.st rfl).st rfl).st rfl).st rfl).st rfl).st rfl)
theorem cmM_n (h : Hp) (a b c d e : Int) : cmM h a b c d e 57 16 = h 57 16 + 1 := hset_same _ _ _ _
theorem cmM_rows (h : Hp) (a b c d e : Int) : (∀ j, cmM h a b c d e 66 j = upR (h 66) (h 57 16).toNat a j) ∧ (∀ j, cmM h a b c d e 67 j = upR (h 67) (h 57 16).toNat b j) ∧ (∀ j, cmM h a b c d e 68 j = upR (h 68) (h 57 16).toNat c j) ∧ (∀ j, cmM h a b c d e 69 j = upR (h 69) (h 57 16).toNat d j) ∧ (∀ j, cmM h a b c d e 70 j = upR (h 70) (h 57 16).toNat e j) := by
  refine ⟨fun j => ?_, fun j => ?_, fun j => ?_, fun j => ?_, fun j => ?_⟩ <;> simp [cmM, hset_app, upR]
theorem IMa.cm {h : Hp} {a b c d e : Int} (hI : IMa h) (hn : h 57 16 < 120) (ha : 0 ≤ a ∧ a < h 57 13) (hb : 0 ≤ b ∧ b < h 57 15) (hc : 0 ≤ c ∧ c ≤ 99) (hd : 10 ≤ d ∧ d ≤ 29999) (he : -1 ≤ e ∧ e < h 57 14) : IMa (cmM h a b c d e) := by
  obtain ⟨r1, r2, r3, r4, r5⟩ := cmM_rows h a b c d e
  have E := cmM_ep h a b c d e
  obtain ⟨h1, h2, h3, h4⟩ := hI
  unfold IMa
  rw [E.row 58 (fun _ => rfl), E.row 59 (fun _ => rfl), E.row 60 (fun _ => rfl), E.row 61 (fun _ => rfl), E.row 62 (fun _ => rfl), E.row 63 (fun _ => rfl), E.row 64 (fun _ => rfl), E.row 65 (fun _ => rfl), E 57 13 rfl, E 57 14 rfl, E 57 15 rfl, cmM_n]
  refine ⟨h1, h2, h3, ?_⟩
  obtain ⟨p1, p2, p3⟩ := h4
  refine ⟨by omega, by omega, fun r hr => ?_⟩
  rw [r1 r, r2 r, r3 r, r4 r, r5 r]
  unfold upR
  by_cases z : r = (h 57 16).toNat
  · simp only [if_pos z]
    exact ⟨ha.1, ha.2, hb.1, hb.2, hc.1, hc.2, hd.1, hd.2, he.1, he.2⟩
  · simp only [if_neg z]
    exact p3 r (by omega)
theorem nmF_ep {g h : Hp} (e : EP mrc g h) : nmF h = nmF g := by
  funext r y s d t
  unfold nmF
  rw [e.row 58 (fun _ => rfl), e.row 59 (fun _ => rfl), e.row 60 (fun _ => rfl), e.row 61 (fun _ => rfl), e.row 62 (fun _ => rfl), e.row 63 (fun _ => rfl), e 57 13 rfl]
theorem tokL_ep {g h : Hp} (e : EP mrc g h) (l : Int) : tokL h l = tokL g l := by
  unfold tokL
  rw [e.row 76 (fun _ => rfl), e.row 77 (fun _ => rfl)]
def tmM (m : Int) : Int := if m < 10 then 10 else if 29999 < m then 29999 else m
theorem tmM_in (m : Int) : 10 ≤ tmM m ∧ tmM m ≤ 29999 := by unfold tmM; (repeat' split) <;> omega
def wornM (h : Hp) (law shoe year : Int) (r : Nat) (z : Int) : Int := if evF (nmF h r year shoe.toNat (ptF z 100)) (tokL h law) [] true ≠ 0 then shoe else 0
theorem wornM_or (h : Hp) (law shoe year : Int) (r : Nat) (z : Int) : wornM h law shoe year r z = shoe ∨ wornM h law shoe year r z = 0 := by
  unfold wornM
  split
  · exact Or.inl rfl
  · exact Or.inr rfl
def rtM (h : Hp) (law course year shoe day : Int) (r : Nat) (z : Int) : Int := tmM (((fThen (h 58) (h 59) r year * h 65 course.toNat).tdiv 1000 * (1000 + day + (ptF (drF (drF z)) 21 - 10) - h 63 (wornM h law shoe year r (drF z)).toNat)).tdiv 1000)
def rsM2 (h : Hp) (law shoe year : Int) (r : Nat) (z : Int) : Int := if ptF (drF (drF (drF z))) 100 < h 57 17 then wornM h law shoe year r (drF z) else -1
def raceM (g : Hp) (law course year shoe day : Int) : Nat → Nat → Int → Hp → Hp → Prop
  | 0, _, _, h, x => x = h
  | n + 1, r, z, h, x => ∃ h1, EP mscr h h1 ∧ raceM g law course year shoe day n (r + 1) (drF (drF (drF z))) (cmM h1 r course year (rtM g law course year shoe day r z) (rsM2 g law shoe year r z)) x
theorem raceM_ep {g : Hp} {law course year shoe day : Int} : ∀ (n r : Nat) (z : Int) (h x : Hp), raceM g law course year shoe day n r z h x → EP mrc h x
  | 0, r, z, h, x, e => by
    have e : x = h := e
    subst e
    exact EP.rf
  | n + 1, r, z, h, x, e => by
    obtain ⟨h1, w, q⟩ := e
    exact (w.toR.tr (cmM_ep _ _ _ _ _ _)).tr (raceM_ep n _ _ _ _ q)
