/-! the reference: unseen -/
theorem p2_all : ∀ n : Fin 13, (Int32.ofInt 1 <<< (Int32.ofInt (n.val : Int) &&& 31)).toInt = 2 ^ n.val := by decide +kernel
theorem p2_of {n : Nat} (h : n ≤ 12) : (Int32.ofInt 1 <<< (Int32.ofInt (n : Int) &&& 31)).toInt = 2 ^ n := p2_all ⟨n, by omega⟩
theorem p2_le : ∀ n : Fin 13, (1 : Int) ≤ 2 ^ n.val ∧ (2 : Int) ^ n.val ≤ 4096 := by decide +kernel
/-- the k-th bit of a set -/
def bitX (q k : Int) : Int := (Int32.ofInt (Int32.ofInt q >>> (Int32.ofInt k &&& 31)).toInt &&& Int32.ofInt 1).toInt
/-- the levels of a race's runs that aren't seen, as they came -/
def hcL (co ye : Nat → Int) (c y : Int) (sh lv : Nat → Int) : Nat → Nat → List Int
  | 0, _ => []
  | n + 1, k => if co k = c ∧ ye k = y ∧ sh k < 0 then lv k :: hcL co ye c y sh lv n (k + 1) else hcL co ye c y sh lv n (k + 1)
def HRow (row : Nat → Int) (P : List Int) : Prop := ∀ j : Nat, j < P.length → row j = P.getD j 0
theorem HRow.st {row : Nat → Int} {P : List Int} {v : Int} {row2 : Nat → Int} (H : HRow row P) (e : ∀ j : Nat, row2 j = if j = P.length then v else row j) : HRow row2 (P ++ [v]) := by
  intro j hj
  rw [e j]
  by_cases z : j = P.length
  · subst z
    rw [if_pos rfl]
    simp
  · have hj2 : j < P.length := by simp at hj; omega
    rw [if_neg z, H j hj2]
    simp only [List.getD_eq_getElem?_getD]
    rw [List.getElem?_append_left hj2]
/-- the sets: a, b, how many are taken as new -/
abbrev T3 : Type := Int × Int × Int
def usS (row : Nat → Int) (q : Int) (k : Nat) (s : T3) : T3 := if bitX q k = 1 then (s.1, s.2.1 + row k, s.2.2 + 1) else (s.1 + row k, s.2.1, s.2.2)
def UI (t : T4) (s : T3) (k : Int) : Prop := 0 ≤ s.2.2 ∧ s.2.2 ≤ k ∧ 5 * (t.2.2.1 + k - s.2.2) ≤ s.1 ∧ s.1 ≤ 59998 * (t.2.2.1 + k - s.2.2) ∧ 5 * (t.2.2.2 + s.2.2) ≤ s.2.1 ∧ s.2.1 ≤ 59998 * (t.2.2.2 + s.2.2)
theorem usS_in {t : T4} {row : Nat → Int} {q : Int} {k : Nat} {s : T3} (h : UI t s k) (r1 : 5 ≤ row k) (r2 : row k ≤ 59998) : UI t (usS row q k s) ((k + 1 : Nat) : Int) := by
  obtain ⟨h1, h2, h3, h4, h5, h6⟩ := h
  unfold usS
  split <;> (refine ⟨?_, ?_, ?_, ?_, ?_, ?_⟩ <;> simp only <;> (try push_cast) <;> omega)
theorem usL_in {t : T4} {row : Nat → Int} {q : Int} {m : Nat} (hr : ∀ j : Nat, j < m → 5 ≤ row j ∧ row j ≤ 59998) : ∀ (n k : Nat) (s : T3), k + n = m → UI t s k → UI t (lp (usS row q) n k s) m
  | 0, k, s, hk, h => by
    have e : k = m := by omega
    rw [← e]; exact h
  | n + 1, k, s, hk, h => by
    unfold lp
    exact usL_in hr n (k + 1) _ (by omega) (usS_in h (hr k (by omega)).1 (hr k (by omega)).2)
def stV (t : T4) (n : Nat) (s : T3) (b f : Int) : Int := if t.2.2.1 + n - s.2.2 = 0 ∨ t.2.2.2 + s.2.2 = 0 then f else if b = 0 then lsF f (besF s.1 (t.2.2.1 + n - s.2.2) s.2.1 (t.2.2.2 + s.2.2)) else gtF f (besF s.1 (t.2.2.1 + n - s.2.2) s.2.1 (t.2.2.2 + s.2.2))
def stS (t : T4) (n : Nat) (row : Nat → Int) (b : Int) (q : Nat) (f : Int) : Int := stV t n (lp (usS row q) n 0 (t.1, t.2.1, 0)) b f
theorem stV_in {t : T4} {n : Nat} {s : T3} {b f : Int} (h : UI t s n) (hf : f = -2000000000 ∨ -12000000 ≤ f ∧ f ≤ 1000) (ho : 0 ≤ t.2.2.1) (hn : 0 ≤ t.2.2.2) : stV t n s b f = -2000000000 ∨ -12000000 ≤ stV t n s b f ∧ stV t n s b f ≤ 1000 := by
  obtain ⟨h1, h2, h3, h4, h5, h6⟩ := h
  unfold stV
  split
  · exact hf
  · have bb := besF_in (t := (s.1, s.2.1, t.2.2.1 + n - s.2.2, t.2.2.2 + s.2.2)) (b := t.2.2.1 + n + t.2.2.2) ⟨by simp only; omega, by simp only; omega, by simp only; omega, h3, h4, h5, h6⟩ (by simp only; omega) (by simp only; omega)
    simp only at bb
    unfold lsF gtF
    (repeat' split) <;> omega
theorem stB {t : T4} {n : Nat} {s : T3} (h : UI t s n) (ho : 0 ≤ t.2.2.1) (hn : 0 ≤ t.2.2.2) (h1 : ¬ t.2.2.1 + n - s.2.2 = 0) (h2 : ¬ t.2.2.2 + s.2.2 = 0) : -12000000 ≤ besF s.1 (t.2.2.1 + n - s.2.2) s.2.1 (t.2.2.2 + s.2.2) ∧ besF s.1 (t.2.2.1 + n - s.2.2) s.2.1 (t.2.2.2 + s.2.2) ≤ 1000 := by
  obtain ⟨a1, a2, a3, a4, a5, a6⟩ := h
  have bb := besF_in (t := (s.1, s.2.1, t.2.2.1 + n - s.2.2, t.2.2.2 + s.2.2)) (b := t.2.2.1 + n + t.2.2.2) ⟨by simp only; omega, by simp only; omega, by simp only; omega, a3, a4, a5, a6⟩ (by simp only; omega) (by simp only; omega)
  exact bb.2.2.2.2
theorem UI.zero {t : T4} {b : Int} (H : TI t b) : UI t (t.1, t.2.1, 0) ((0 : Nat) : Int) := by
  obtain ⟨h1, h2, h3, h4, h5, h6, h7⟩ := H
  refine ⟨?_, ?_, ?_, ?_, ?_, ?_⟩ <;> simp only <;> omega
abbrev hcM (h : Hp) (c y : Int) : List Int := hcL (h 67) (h 68) c y (h 70) (lvM h) (h 57 16).toNat 0
def unM (h : Hp) (c y b : Int) : Int := if 12 < (raM h c y).2 ∨ (raM h c y).2 = 0 then -2000000000 else lp (stS (raM h c y).1 (hcM h c y).length (fun j => (hcM h c y).getD j 0) b) (2 ^ (hcM h c y).length) 0 (-2000000000)
theorem hcL_len (co ye : Nat → Int) (c y : Int) (sh gv lv : Nat → Int) : ∀ (n k : Nat) (S : T4 × Int), (lp (raceS co ye c y sh gv lv) n k S).2 = S.2 + (hcL co ye c y sh lv n k).length
  | 0, k, S => by simp [lp, hcL]
  | n + 1, k, S => by
    have q := hcL_len co ye c y sh gv lv n (k + 1) (raceS co ye c y sh gv lv k S)
    unfold lp hcL
    rw [q]
    unfold raceS
    by_cases z : co k = c ∧ ye k = y
    · by_cases w : 0 ≤ sh k
      · rw [if_pos z, if_pos w, if_neg (by omega)]
      · rw [if_pos z, if_neg w, if_pos ⟨z.1, z.2, by omega⟩]
        simp only [List.length_cons]
        push_cast
        omega
    · rw [if_neg z, if_neg (fun u => z ⟨u.1, u.2.1⟩)]
theorem hcL_in {co ye : Nat → Int} {c y : Int} {sh lv : Nat → Int} {A B : Int} : ∀ (n k : Nat), (∀ j : Nat, k ≤ j → j < k + n → A ≤ lv j ∧ lv j ≤ B) → ∀ v ∈ hcL co ye c y sh lv n k, A ≤ v ∧ v ≤ B
  | 0, k, h, v, hv => by simp [hcL] at hv
  | n + 1, k, h, v, hv => by
    unfold hcL at hv
    have q := hcL_in (co := co) (ye := ye) (c := c) (y := y) (sh := sh) n (k + 1) (fun j h1 h2 => h j (by omega) (by omega))
    split at hv
    · rcases List.mem_cons.mp hv with e | e
      · rw [e]; exact h k (Nat.le_refl _) (by omega)
      · exact q v e
    · exact q v hv
theorem lp_congr {S : Type} {f g : Nat → S → S} : ∀ (n k : Nat) (s : S), (∀ j : Nat, k ≤ j → j < k + n → ∀ s, f j s = g j s) → lp f n k s = lp g n k s
  | 0, k, s, h => rfl
  | n + 1, k, s, h => by
    unfold lp
    rw [h k (Nat.le_refl _) (by omega)]
    exact lp_congr n (k + 1) _ (fun j h1 h2 => h j (by omega) (by omega))
theorem stS_congr {t : T4} {n : Nat} {row row2 : Nat → Int} (b : Int) (h : ∀ j : Nat, j < n → row j = row2 j) : stS t n row b = stS t n row2 b := by
  funext q f
  unfold stS
  rw [lp_congr (f := usS row q) (g := usS row2 q) n 0 (t.1, t.2.1, 0) (fun j _ h2 s => by unfold usS; rw [h j (by omega)])]
theorem EX.ep81 {h h1 : Hp} (e : EX [81] h h1) : EP mscr h h1 := fun k j z => by
  have : k ≠ 81 := fun y => by subst y; simp [mscr] at z
  rw [e k (by simp; omega)]
set_option maxRecDepth 100000 in
set_option maxHeartbeats 4000000 in
theorem lp_X12_unseenH {K : KT} {X : XT} {dep : Nat} {h : Hp} {a b : Int} (hI : IMa h) (qa : inI a) (q1 : inI (a.tdiv 100)) (q2 : inI (a.tmod 100)) (hd : 1 ≤ dep) : ∀ (n k : Nat) (P : List Int) (h1 : Hp), (k : Int) + n = h 57 16 → EX [81] h h1 → HRow (h1 81) P → P.length ≤ k → (∀ h2 : Hp, EX [81] h h2 → HRow (h2 81) (P ++ hcL (h 67) (h 68) (a.tdiv 100) (a.tmod 100) (h 70) (lvM h) n k) → AW K X RX12 cX12_unseen 10 (some .int) dep 137 [some (vR 57), some (vI (a)), some (vI (b)), some (vI (((P ++ hcL (h 67) (h 68) (a.tdiv 100) (a.tmod 100) (h 70) (lvM h) n k).length : Int))), none, none, none, none, none, none] [] h2) → AW K X RX12 cX12_unseen 10 (some .int) dep 66 [some (vR 57), some (vI (a)), some (vI (b)), some (vI ((P.length : Int))), some (vI ((k : Int))), none, none, none, none, none] [] h1 := by
  have g6 := hI.2.2.2.1
  have g7 := hI.2.2.2.2.1
  have g8 := hI.2.1.2.1
  intro n
  induction n with
  | zero =>
    intro k P h1 hk e1 t1 hl kk
    have w13 : h1 57 16 = h 57 16 := e1.ep81 57 16 rfl
    have w66 := e1.ep81.row 66 (fun _ => rfl)
    have w68 := e1.ep81.row 68 (fun _ => rfl)
    have w69 := e1.ep81.row 69 (fun _ => rfl)
    have w70 := e1.ep81.row 70 (fun _ => rfl)
    have w67 := e1.ep81.row 67 (fun _ => rfl)
    have w65 := e1.ep81.row 65 (fun _ => rfl)
    have w63 := e1.ep81.row 63 (fun _ => rfl)
    have w15 : h1 57 15 = h 57 15 := e1.ep81 57 15 rfl
    have w14 : h1 57 13 = h 57 13 := e1.ep81 57 13 rfl
    have hI_w := hI.ep e1.ep81
    refine AW.iload (pc' := 68) dX12_unseen_66 rfl ?_
    refine AW.aload_n (pc' := 69) dX12_unseen_68 rfl ?_
    refine AW.getI (pc' := 72) dX12_unseen_69 ly_57 fX12_128 rfl (fun r69 => ?_)
    try simp only [w13, w66, w68, w69, w70, w67, w65, w63, w15, w14] at r69 ⊢
    refine AW.icmp_ge (tgt := 137) (pc' := 75) dX12_unseen_72 (by first | assumption | omega | (constructor <;> omega) | (simp only [Int.toNat_natCast]; omega) | exact b2_in _) (by first | assumption | omega | (constructor <;> omega) | (simp only [Int.toNat_natCast]; omega) | exact b2_in _) (fun c72 => ?_) (fun c72 => ?_)
    · exact AW.weak (kk h1 e1 (by unfold hcL; rw [List.append_nil]; exact t1)) (by (repeat' first | exact LSub.e | refine LSub.n ?_ | refine LSub.c ?_ ?_) <;> first | rfl | exact congrArg Sum.inl (by first | rfl | omega | (unfold hcL; rw [List.append_nil])) | exact congrArg (fun z : Int => (vL z : AV)) (by first | rfl | omega | (unfold hcL; rw [List.append_nil])))
    · omega
  | succ n ih =>
    intro k P h1 hk e1 t1 hl kk
    have w13 : h1 57 16 = h 57 16 := e1.ep81 57 16 rfl
    have w66 := e1.ep81.row 66 (fun _ => rfl)
    have w68 := e1.ep81.row 68 (fun _ => rfl)
    have w69 := e1.ep81.row 69 (fun _ => rfl)
    have w70 := e1.ep81.row 70 (fun _ => rfl)
    have w67 := e1.ep81.row 67 (fun _ => rfl)
    have w65 := e1.ep81.row 65 (fun _ => rfl)
    have w63 := e1.ep81.row 63 (fun _ => rfl)
    have w15 : h1 57 15 = h 57 15 := e1.ep81 57 15 rfl
    have w14 : h1 57 13 = h 57 13 := e1.ep81 57 13 rfl
    have hI_w := hI.ep e1.ep81
    have hkr : (k : Int) < h 57 16 := by omega
    have lv1 := lvl_in hI.2.2.2 hI.2.2.1 hkr
    have g5 := hI.2.2.2.2.2 k hkr
    refine AW.iload (pc' := 68) dX12_unseen_66 rfl ?_
    refine AW.aload_n (pc' := 69) dX12_unseen_68 rfl ?_
    refine AW.getI (pc' := 72) dX12_unseen_69 ly_57 fX12_128 rfl (fun r69 => ?_)
    try simp only [w13, w66, w68, w69, w70, w67, w65, w63, w15, w14, Int.toNat_natCast] at r69 ⊢
    refine AW.icmp_ge (tgt := 137) (pc' := 75) dX12_unseen_72 (by first | assumption | omega | (constructor <;> omega) | (simp only [Int.toNat_natCast]; omega) | exact b2_in _) (by first | assumption | omega | (constructor <;> omega) | (simp only [Int.toNat_natCast]; omega) | exact b2_in _) (fun c72 => ?_) (fun c72 => ?_)
    · omega
    · refine AW.aload_n (pc' := 76) dX12_unseen_75 rfl ?_
      refine AW.getR (pc' := 79) dX12_unseen_76 ly_57 fX12_37 rfl ?_
      refine AW.iload (pc' := 81) dX12_unseen_79 rfl ?_
      first | refine AW.ialdN (pc' := 82) dX12_unseen_81 ly_67 (by first | assumption | omega | (constructor <;> omega) | (simp only [Int.toNat_natCast]; omega) | exact b2_in _) (by decide) (fun r81 => ?_) | refine AW.iald (pc' := 82) dX12_unseen_81 ly_67 (by first | assumption | omega | (constructor <;> omega) | (simp only [Int.toNat_natCast]; omega) | exact b2_in _) (by first | assumption | omega | (constructor <;> omega) | (simp only [Int.toNat_natCast]; omega) | exact b2_in _) (by decide) (fun r81 => ?_)
      try simp only [w13, w66, w68, w69, w70, w67, w65, w63, w15, w14, Int.toNat_natCast] at r81 ⊢
      refine AW.iload_n (pc' := 83) dX12_unseen_82 rfl ?_
      refine AW.bipush (pc' := 85) dX12_unseen_83 (by decide) ?_
      refine AW.idiv (pc' := 86) dX12_unseen_85 (by first | assumption | omega | (constructor <;> omega) | (simp only [Int.toNat_natCast]; omega) | exact b2_in _) (by first | assumption | omega | (constructor <;> omega) | (simp only [Int.toNat_natCast]; omega) | exact b2_in _) (by first | assumption | omega | (constructor <;> omega) | (simp only [Int.toNat_natCast]; omega) | exact b2_in _) ?_
      refine AW.icmp_ne (tgt := 131) (pc' := 89) dX12_unseen_86 (by first | assumption | omega | (constructor <;> omega) | (simp only [Int.toNat_natCast]; omega) | exact b2_in _) (by first | assumption | omega | (constructor <;> omega) | (simp only [Int.toNat_natCast]; omega) | exact b2_in _) (fun c86 => ?_) (fun c86 => ?_)
      · first
        | (refine AW.iinc4 (pc' := 134) dX12_unseen_131 (by decide) rfl ?_
           refine AW.goto (tgt := 66) dX12_unseen_134 ?_
           have z : hcL (h 67) (h 68) (a.tdiv 100) (a.tmod 100) (h 70) (lvM h) (n + 1) k = hcL (h 67) (h 68) (a.tdiv 100) (a.tmod 100) (h 70) (lvM h) n (k + 1) := by
             conv => lhs; unfold hcL
             rw [if_neg (by omega)]
           rw [z] at kk
           exact AW.weak (ih (k + 1) P _ (by omega) e1 t1 (by omega) kk) (by (repeat' first | exact LSub.e | refine LSub.n ?_ | refine LSub.c ?_ ?_) <;> first | rfl | exact congrArg Sum.inl (by first | rfl | omega | (push_cast; omega)) | exact congrArg (fun z : Int => (vL z : AV)) (by first | rfl | omega | (push_cast; omega))))
        | (refine AW.iinc4 (pc' := 134) dX12_unseen_131 (by decide) rfl ?_
           refine AW.goto (tgt := 66) dX12_unseen_134 ?_
           have z : P ++ hcL (h 67) (h 68) (a.tdiv 100) (a.tmod 100) (h 70) (lvM h) (n + 1) k = P ++ [lvM h k] ++ hcL (h 67) (h 68) (a.tdiv 100) (a.tmod 100) (h 70) (lvM h) n (k + 1) := by
             conv => lhs; unfold hcL
             rw [if_pos (by omega)]
             simp
           rw [z] at kk
           exact AW.weak (ih (k + 1) (P ++ [lvM h k]) _ (by omega) (e1.st rfl) (t1.st (fun j => by simp [hset_app])) (by simp; omega) kk) (by (repeat' first | exact LSub.e | refine LSub.n ?_ | refine LSub.c ?_ ?_) <;> first | rfl | exact congrArg Sum.inl (by first | rfl | omega | simp) | exact congrArg (fun z : Int => (vL z : AV)) (by first | rfl | omega | simp)))
      · refine AW.aload_n (pc' := 90) dX12_unseen_89 rfl ?_
        refine AW.getR (pc' := 93) dX12_unseen_90 ly_57 fX12_40 rfl ?_
        refine AW.iload (pc' := 95) dX12_unseen_93 rfl ?_
        first | refine AW.ialdN (pc' := 96) dX12_unseen_95 ly_68 (by first | assumption | omega | (constructor <;> omega) | (simp only [Int.toNat_natCast]; omega) | exact b2_in _) (by decide) (fun r95 => ?_) | refine AW.iald (pc' := 96) dX12_unseen_95 ly_68 (by first | assumption | omega | (constructor <;> omega) | (simp only [Int.toNat_natCast]; omega) | exact b2_in _) (by first | assumption | omega | (constructor <;> omega) | (simp only [Int.toNat_natCast]; omega) | exact b2_in _) (by decide) (fun r95 => ?_)
        try simp only [w13, w66, w68, w69, w70, w67, w65, w63, w15, w14, Int.toNat_natCast] at r95 ⊢
        refine AW.iload_n (pc' := 97) dX12_unseen_96 rfl ?_
        refine AW.bipush (pc' := 99) dX12_unseen_97 (by decide) ?_
        refine AW.irem (pc' := 100) dX12_unseen_99 (by first | assumption | omega | (constructor <;> omega) | (simp only [Int.toNat_natCast]; omega) | exact b2_in _) (by first | assumption | omega | (constructor <;> omega) | (simp only [Int.toNat_natCast]; omega) | exact b2_in _) (by first | assumption | omega | (constructor <;> omega) | (simp only [Int.toNat_natCast]; omega) | exact b2_in _) ?_
        refine AW.icmp_ne (tgt := 131) (pc' := 103) dX12_unseen_100 (by first | assumption | omega | (constructor <;> omega) | (simp only [Int.toNat_natCast]; omega) | exact b2_in _) (by first | assumption | omega | (constructor <;> omega) | (simp only [Int.toNat_natCast]; omega) | exact b2_in _) (fun c100 => ?_) (fun c100 => ?_)
        · first
          | (refine AW.iinc4 (pc' := 134) dX12_unseen_131 (by decide) rfl ?_
             refine AW.goto (tgt := 66) dX12_unseen_134 ?_
             have z : hcL (h 67) (h 68) (a.tdiv 100) (a.tmod 100) (h 70) (lvM h) (n + 1) k = hcL (h 67) (h 68) (a.tdiv 100) (a.tmod 100) (h 70) (lvM h) n (k + 1) := by
               conv => lhs; unfold hcL
               rw [if_neg (by omega)]
             rw [z] at kk
             exact AW.weak (ih (k + 1) P _ (by omega) e1 t1 (by omega) kk) (by (repeat' first | exact LSub.e | refine LSub.n ?_ | refine LSub.c ?_ ?_) <;> first | rfl | exact congrArg Sum.inl (by first | rfl | omega | (push_cast; omega)) | exact congrArg (fun z : Int => (vL z : AV)) (by first | rfl | omega | (push_cast; omega))))
          | (refine AW.iinc4 (pc' := 134) dX12_unseen_131 (by decide) rfl ?_
             refine AW.goto (tgt := 66) dX12_unseen_134 ?_
             have z : P ++ hcL (h 67) (h 68) (a.tdiv 100) (a.tmod 100) (h 70) (lvM h) (n + 1) k = P ++ [lvM h k] ++ hcL (h 67) (h 68) (a.tdiv 100) (a.tmod 100) (h 70) (lvM h) n (k + 1) := by
               conv => lhs; unfold hcL
               rw [if_pos (by omega)]
               simp
             rw [z] at kk
             exact AW.weak (ih (k + 1) (P ++ [lvM h k]) _ (by omega) (e1.st rfl) (t1.st (fun j => by simp [hset_app])) (by simp; omega) kk) (by (repeat' first | exact LSub.e | refine LSub.n ?_ | refine LSub.c ?_ ?_) <;> first | rfl | exact congrArg Sum.inl (by first | rfl | omega | simp) | exact congrArg (fun z : Int => (vL z : AV)) (by first | rfl | omega | simp)))
        · refine AW.aload_n (pc' := 104) dX12_unseen_103 rfl ?_
          refine AW.getR (pc' := 107) dX12_unseen_104 ly_57 fX12_46 rfl ?_
          refine AW.iload (pc' := 109) dX12_unseen_107 rfl ?_
          first | refine AW.ialdN (pc' := 110) dX12_unseen_109 ly_70 (by first | assumption | omega | (constructor <;> omega) | (simp only [Int.toNat_natCast]; omega) | exact b2_in _) (by decide) (fun r109 => ?_) | refine AW.iald (pc' := 110) dX12_unseen_109 ly_70 (by first | assumption | omega | (constructor <;> omega) | (simp only [Int.toNat_natCast]; omega) | exact b2_in _) (by first | assumption | omega | (constructor <;> omega) | (simp only [Int.toNat_natCast]; omega) | exact b2_in _) (by decide) (fun r109 => ?_)
          try simp only [w13, w66, w68, w69, w70, w67, w65, w63, w15, w14, Int.toNat_natCast] at r109 ⊢
          refine AW.if_lt (tgt := 116) (pc' := 113) dX12_unseen_110 (by first | assumption | omega | (constructor <;> omega) | (simp only [Int.toNat_natCast]; omega) | exact b2_in _) (fun c110 => ?_) (fun c110 => ?_)
          · refine AW.aload_n (pc' := 117) dX12_unseen_116 rfl ?_
            refine AW.getR (pc' := 120) dX12_unseen_117 ly_57 fX12_83 rfl ?_
            refine AW.iload_n (pc' := 121) dX12_unseen_120 rfl ?_
            refine AW.aload_n (pc' := 122) dX12_unseen_121 rfl ?_
            refine AW.iload (pc' := 124) dX12_unseen_122 rfl ?_
            refine AW.invV1 (pc' := 127) dX12_unseen_124 mlX12_157 mX12_level ly_57 rfl (c_X12_level (dep := dep - 1) (by first | assumption | omega | (constructor <;> omega) | (simp only [Int.toNat_natCast]; omega) | exact b2_in _) (by first | assumption | omega | (constructor <;> omega) | (simp only [Int.toNat_natCast]; omega) | exact b2_in _)) ?_
            try simp only [Int.toNat_natCast, w13, w66, w68, w69, w70, w67, w65, w63, w15, w14, Int.toNat_natCast]
            first | refine AW.iastN (pc' := 128) dX12_unseen_127 ly_81 (by first | assumption | omega | (constructor <;> omega) | (simp only [Int.toNat_natCast]; omega) | exact b2_in _) (by decide) (by first | assumption | omega | (constructor <;> omega) | (simp only [Int.toNat_natCast]; omega) | exact b2_in _) ?_ | refine AW.iast (pc' := 128) dX12_unseen_127 ly_81 (by first | assumption | omega | (constructor <;> omega) | (simp only [Int.toNat_natCast]; omega) | exact b2_in _) (by first | assumption | omega | (constructor <;> omega) | (simp only [Int.toNat_natCast]; omega) | exact b2_in _) (by decide) (by first | assumption | omega | (constructor <;> omega) | (simp only [Int.toNat_natCast]; omega) | exact b2_in _) ?_
            refine AW.iinc3 (pc' := 131) dX12_unseen_128 (by decide) rfl ?_
            first
            | (refine AW.iinc4 (pc' := 134) dX12_unseen_131 (by decide) rfl ?_
               refine AW.goto (tgt := 66) dX12_unseen_134 ?_
               have z : hcL (h 67) (h 68) (a.tdiv 100) (a.tmod 100) (h 70) (lvM h) (n + 1) k = hcL (h 67) (h 68) (a.tdiv 100) (a.tmod 100) (h 70) (lvM h) n (k + 1) := by
                 conv => lhs; unfold hcL
                 rw [if_neg (by omega)]
               rw [z] at kk
               exact AW.weak (ih (k + 1) P _ (by omega) e1 t1 (by omega) kk) (by (repeat' first | exact LSub.e | refine LSub.n ?_ | refine LSub.c ?_ ?_) <;> first | rfl | exact congrArg Sum.inl (by first | rfl | omega | (push_cast; omega)) | exact congrArg (fun z : Int => (vL z : AV)) (by first | rfl | omega | (push_cast; omega))))
            | (refine AW.iinc4 (pc' := 134) dX12_unseen_131 (by decide) rfl ?_
               refine AW.goto (tgt := 66) dX12_unseen_134 ?_
               have z : P ++ hcL (h 67) (h 68) (a.tdiv 100) (a.tmod 100) (h 70) (lvM h) (n + 1) k = P ++ [lvM h k] ++ hcL (h 67) (h 68) (a.tdiv 100) (a.tmod 100) (h 70) (lvM h) n (k + 1) := by
                 conv => lhs; unfold hcL
                 rw [if_pos (by omega)]
                 simp
               rw [z] at kk
               exact AW.weak (ih (k + 1) (P ++ [lvM h k]) _ (by omega) (e1.st rfl) (t1.st (fun j => by simp [hset_app])) (by simp; omega) kk) (by (repeat' first | exact LSub.e | refine LSub.n ?_ | refine LSub.c ?_ ?_) <;> first | rfl | exact congrArg Sum.inl (by first | rfl | omega | simp) | exact congrArg (fun z : Int => (vL z : AV)) (by first | rfl | omega | simp)))
          · refine AW.goto (tgt := 131) dX12_unseen_113 ?_
            first
            | (refine AW.iinc4 (pc' := 134) dX12_unseen_131 (by decide) rfl ?_
               refine AW.goto (tgt := 66) dX12_unseen_134 ?_
               have z : hcL (h 67) (h 68) (a.tdiv 100) (a.tmod 100) (h 70) (lvM h) (n + 1) k = hcL (h 67) (h 68) (a.tdiv 100) (a.tmod 100) (h 70) (lvM h) n (k + 1) := by
                 conv => lhs; unfold hcL
                 rw [if_neg (by omega)]
               rw [z] at kk
               exact AW.weak (ih (k + 1) P _ (by omega) e1 t1 (by omega) kk) (by (repeat' first | exact LSub.e | refine LSub.n ?_ | refine LSub.c ?_ ?_) <;> first | rfl | exact congrArg Sum.inl (by first | rfl | omega | (push_cast; omega)) | exact congrArg (fun z : Int => (vL z : AV)) (by first | rfl | omega | (push_cast; omega))))
            | (refine AW.iinc4 (pc' := 134) dX12_unseen_131 (by decide) rfl ?_
               refine AW.goto (tgt := 66) dX12_unseen_134 ?_
               have z : P ++ hcL (h 67) (h 68) (a.tdiv 100) (a.tmod 100) (h 70) (lvM h) (n + 1) k = P ++ [lvM h k] ++ hcL (h 67) (h 68) (a.tdiv 100) (a.tmod 100) (h 70) (lvM h) n (k + 1) := by
                 conv => lhs; unfold hcL
                 rw [if_pos (by omega)]
                 simp
               rw [z] at kk
               exact AW.weak (ih (k + 1) (P ++ [lvM h k]) _ (by omega) (e1.st rfl) (t1.st (fun j => by simp [hset_app])) (by simp; omega) kk) (by (repeat' first | exact LSub.e | refine LSub.n ?_ | refine LSub.c ?_ ?_) <;> first | rfl | exact congrArg Sum.inl (by first | rfl | omega | simp) | exact congrArg (fun z : Int => (vL z : AV)) (by first | rfl | omega | simp)))
set_option maxRecDepth 100000 in
set_option maxHeartbeats 4000000 in
theorem lp_X12_unseenB {K : KT} {X : XT} {dep : Nat} {h : Hp} {a b f q : Int} {t : T4} {m : Nat} (qm : m ≤ 12) (qq : inI q) (hr : ∀ j : Nat, j < m → 5 ≤ h 81 j ∧ h 81 j ≤ 59998) (ht : TI t 200)  : ∀ (n k : Nat) (s : T3), (k : Int) + n = (m : Int) → UI t s k → AW K X RX12 cX12_unseen 10 (some .int) dep 223 [some (vR 57), some (vI (a)), some (vI (b)), some (vI ((m : Int))), some (vI (f)), some (vI (q)), some (vI ((lp (usS (h 81) q) n k s).1)), some (vI ((lp (usS (h 81) q) n k s).2.1)), some (vI ((lp (usS (h 81) q) n k s).2.2)), none] [] h → AW K X RX12 cX12_unseen 10 (some .int) dep 170 [some (vR 57), some (vI (a)), some (vI (b)), some (vI ((m : Int))), some (vI (f)), some (vI (q)), some (vI (s.1)), some (vI (s.2.1)), some (vI (s.2.2)), some (vI ((k : Int)))] [] h := by
  intro n
  induction n with
  | zero =>
    intro k s hk i0 kk
    refine AW.iload (pc' := 172) dX12_unseen_170 rfl ?_
    refine AW.iload_n (pc' := 173) dX12_unseen_172 rfl ?_
    refine AW.icmp_ge (tgt := 223) (pc' := 176) dX12_unseen_173 (by first | assumption | omega | (constructor <;> omega) | (simp only [Int.toNat_natCast]; omega) | exact b2_in _) (by first | assumption | omega | (constructor <;> omega) | (simp only [Int.toNat_natCast]; omega) | exact b2_in _) (fun c173 => ?_) (fun c173 => ?_)
    · exact AW.weak kk (by (repeat' first | exact LSub.e | refine LSub.n ?_ | refine LSub.c ?_ ?_) <;> first | rfl | exact congrArg Sum.inl (by first | rfl | omega | omega) | exact congrArg (fun z : Int => (vL z : AV)) (by first | rfl | omega | omega))
    · omega
  | succ n ih =>
    intro k s hk i0 kk
    have hkr : ((k : Nat) : Int) < (m : Int) := by omega
    have r1 := hr k (by omega)
    have i9 := i0
    obtain ⟨u1, u2, u3, u4, u5, u6⟩ := i9
    refine AW.iload (pc' := 172) dX12_unseen_170 rfl ?_
    refine AW.iload_n (pc' := 173) dX12_unseen_172 rfl ?_
    refine AW.icmp_ge (tgt := 223) (pc' := 176) dX12_unseen_173 (by first | assumption | omega | (constructor <;> omega) | (simp only [Int.toNat_natCast]; omega) | exact b2_in _) (by first | assumption | omega | (constructor <;> omega) | (simp only [Int.toNat_natCast]; omega) | exact b2_in _) (fun c173 => ?_) (fun c173 => ?_)
    · omega
    · refine AW.iload (pc' := 178) dX12_unseen_176 rfl ?_
      refine AW.iload (pc' := 180) dX12_unseen_178 rfl ?_
      refine AW.ishr (pc' := 181) dX12_unseen_180 ?_
      refine AW.iconst (pc' := 182) dX12_unseen_181 ?_
      skip
      refine AW.iand (pc' := 183) dX12_unseen_182 ?_
      rw [show (Int32.ofInt (Int32.ofInt q >>> (Int32.ofInt (k : Int) &&& 31)).toInt &&& Int32.ofInt 1).toInt = bitX q k from rfl]
      have bi : inI (bitX q k) := in32 _
      refine AW.iconst (pc' := 184) dX12_unseen_183 ?_
      refine AW.icmp_ne (tgt := 205) (pc' := 187) dX12_unseen_184 (by first | assumption | omega | (constructor <;> omega) | (simp only [Int.toNat_natCast]; omega) | exact b2_in _) (by first | assumption | omega | (constructor <;> omega) | (simp only [Int.toNat_natCast]; omega) | exact b2_in _) (fun c184 => ?_) (fun c184 => ?_)
      · refine AW.iload (pc' := 207) dX12_unseen_205 rfl ?_
        refine AW.aload_n (pc' := 208) dX12_unseen_207 rfl ?_
        refine AW.getR (pc' := 211) dX12_unseen_208 ly_57 fX12_83 rfl ?_
        refine AW.iload (pc' := 213) dX12_unseen_211 rfl ?_
        first | refine AW.ialdN (pc' := 214) dX12_unseen_213 ly_81 (by first | assumption | omega | (constructor <;> omega) | (simp only [Int.toNat_natCast]; omega) | exact b2_in _) (by decide) (fun r213 => ?_) | refine AW.iald (pc' := 214) dX12_unseen_213 ly_81 (by first | assumption | omega | (constructor <;> omega) | (simp only [Int.toNat_natCast]; omega) | exact b2_in _) (by first | assumption | omega | (constructor <;> omega) | (simp only [Int.toNat_natCast]; omega) | exact b2_in _) (by decide) (fun r213 => ?_)
        refine AW.iadd (pc' := 215) dX12_unseen_214 ?_
        refine AW.istore6 (pc' := 217) dX12_unseen_215 (by decide) rfl ?_
        refine AW.iinc9 (pc' := 220) dX12_unseen_217 (by decide) rfl ?_
        refine AW.goto (tgt := 170) dX12_unseen_220 ?_
        exact AW.weak (ih (k + 1) ((usS (h 81) q) k s) (by omega) (by first | omega | (exact usS_in i0 r1.1 r1.2)) kk) (by (repeat' first | exact LSub.e | refine LSub.n ?_ | refine LSub.c ?_ ?_) <;> first | rfl | exact congrArg Sum.inl (by first | rfl | omega | (unfold usS; first | (rw [if_pos (by assumption)]) | (rw [if_neg (by assumption)]))) | exact congrArg (fun z : Int => (vL z : AV)) (by first | rfl | omega | (unfold usS; first | (rw [if_pos (by assumption)]) | (rw [if_neg (by assumption)]))))
      · refine AW.iload (pc' := 189) dX12_unseen_187 rfl ?_
        refine AW.aload_n (pc' := 190) dX12_unseen_189 rfl ?_
        refine AW.getR (pc' := 193) dX12_unseen_190 ly_57 fX12_83 rfl ?_
        refine AW.iload (pc' := 195) dX12_unseen_193 rfl ?_
        first | refine AW.ialdN (pc' := 196) dX12_unseen_195 ly_81 (by first | assumption | omega | (constructor <;> omega) | (simp only [Int.toNat_natCast]; omega) | exact b2_in _) (by decide) (fun r195 => ?_) | refine AW.iald (pc' := 196) dX12_unseen_195 ly_81 (by first | assumption | omega | (constructor <;> omega) | (simp only [Int.toNat_natCast]; omega) | exact b2_in _) (by first | assumption | omega | (constructor <;> omega) | (simp only [Int.toNat_natCast]; omega) | exact b2_in _) (by decide) (fun r195 => ?_)
        refine AW.iadd (pc' := 197) dX12_unseen_196 ?_
        refine AW.istore7 (pc' := 199) dX12_unseen_197 (by decide) rfl ?_
        refine AW.iinc8 (pc' := 202) dX12_unseen_199 (by decide) rfl ?_
        refine AW.goto (tgt := 217) dX12_unseen_202 ?_
        refine AW.iinc9 (pc' := 220) dX12_unseen_217 (by decide) rfl ?_
        refine AW.goto (tgt := 170) dX12_unseen_220 ?_
        exact AW.weak (ih (k + 1) ((usS (h 81) q) k s) (by omega) (by first | omega | (exact usS_in i0 r1.1 r1.2)) kk) (by (repeat' first | exact LSub.e | refine LSub.n ?_ | refine LSub.c ?_ ?_) <;> first | rfl | exact congrArg Sum.inl (by first | rfl | omega | (unfold usS; first | (rw [if_pos (by assumption)]) | (rw [if_neg (by assumption)]))) | exact congrArg (fun z : Int => (vL z : AV)) (by first | rfl | omega | (unfold usS; first | (rw [if_pos (by assumption)]) | (rw [if_neg (by assumption)]))))
set_option maxRecDepth 100000 in
set_option maxHeartbeats 4000000 in
theorem lp_X12_unseenS {K : KT} {X : XT} {dep : Nat} {h : Hp} {a b p : Int} {t : T4} {m : Nat} (hp : (Int32.ofInt 1 <<< (Int32.ofInt (m : Int) &&& 31)).toInt = p) (p1 : 1 ≤ p ∧ p ≤ 4096) (qb : inI b) (qm : m ≤ 12) (hr : ∀ j : Nat, j < m → 5 ≤ h 81 j ∧ h 81 j ≤ 59998) (ht : TI t 200) (f1 : h 57 41 = t.1) (f2 : h 57 43 = t.2.1) (f3 : h 57 42 = t.2.2.1) (f4 : h 57 44 = t.2.2.2) (hd : 1 ≤ dep) : ∀ (n k : Nat) (acc : Int), (k : Int) + n = p → acc = -2000000000 ∨ -12000000 ≤ acc ∧ acc ≤ 1000 → AW K X RX12 cX12_unseen 10 (some .int) dep 302 [some (vR 57), some (vI (a)), some (vI (b)), some (vI ((m : Int))), some (vI ((lp (stS t m (h 81) b) n k acc))), none, none, none, none, none] [] h → AW K X RX12 cX12_unseen 10 (some .int) dep 144 [some (vR 57), some (vI (a)), some (vI (b)), some (vI ((m : Int))), some (vI (acc)), some (vI ((k : Int))), none, none, none, none] [] h := by
  intro n
  induction n with
  | zero =>
    intro k acc hk i0 kk
    refine AW.iload (pc' := 146) dX12_unseen_144 rfl ?_
    refine AW.iconst (pc' := 147) dX12_unseen_146 ?_
    refine AW.iload_n (pc' := 148) dX12_unseen_147 rfl ?_
    refine AW.ishl (pc' := 149) dX12_unseen_148 ?_
    refine AW.icmp_ge (tgt := 302) (pc' := 152) dX12_unseen_149 (by first | assumption | omega | (constructor <;> omega) | (simp only [Int.toNat_natCast]; omega) | exact b2_in _) (by first | assumption | omega | (constructor <;> omega) | (simp only [Int.toNat_natCast]; omega) | exact b2_in _) (fun c149 => ?_) (fun c149 => ?_)
    · exact AW.weak kk (by (repeat' first | exact LSub.e | refine LSub.n ?_ | refine LSub.c ?_ ?_) <;> first | rfl | exact congrArg Sum.inl (by first | rfl | omega | omega) | exact congrArg (fun z : Int => (vL z : AV)) (by first | rfl | omega | omega))
    · omega
  | succ n ih =>
    intro k acc hk i0 kk
    have hkr : ((k : Nat) : Int) < p := by omega
    have ui : UI t (lp (usS (h 81) k) m 0 (t.1, t.2.1, 0)) m := usL_in hr m 0 _ (by omega) (UI.zero ht)
    refine AW.iload (pc' := 146) dX12_unseen_144 rfl ?_
    refine AW.iconst (pc' := 147) dX12_unseen_146 ?_
    refine AW.iload_n (pc' := 148) dX12_unseen_147 rfl ?_
    refine AW.ishl (pc' := 149) dX12_unseen_148 ?_
    refine AW.icmp_ge (tgt := 302) (pc' := 152) dX12_unseen_149 (by first | assumption | omega | (constructor <;> omega) | (simp only [Int.toNat_natCast]; omega) | exact b2_in _) (by first | assumption | omega | (constructor <;> omega) | (simp only [Int.toNat_natCast]; omega) | exact b2_in _) (fun c149 => ?_) (fun c149 => ?_)
    · omega
    · refine AW.aload_n (pc' := 153) dX12_unseen_152 rfl ?_
      refine AW.getI (pc' := 156) dX12_unseen_153 ly_57 fX12_280 rfl (fun r153 => ?_)
      try simp only [f1, f2, f3, f4, Int.toNat_natCast] at r153 ⊢
      refine AW.istore6 (pc' := 158) dX12_unseen_156 (by decide) rfl ?_
      refine AW.aload_n (pc' := 159) dX12_unseen_158 rfl ?_
      refine AW.getI (pc' := 162) dX12_unseen_159 ly_57 fX12_286 rfl (fun r159 => ?_)
      try simp only [f1, f2, f3, f4, Int.toNat_natCast] at r159 ⊢
      refine AW.istore7 (pc' := 164) dX12_unseen_162 (by decide) rfl ?_
      refine AW.iconst (pc' := 165) dX12_unseen_164 ?_
      refine AW.istore8 (pc' := 167) dX12_unseen_165 (by decide) rfl ?_
      refine AW.iconst (pc' := 168) dX12_unseen_167 ?_
      refine AW.istore9 (pc' := 170) dX12_unseen_168 (by decide) rfl ?_
      refine AW.weak (lp_X12_unseenB (t := t) (q := (k : Int)) qm (by constructor <;> omega) hr ht m 0 (t.1, t.2.1, 0) (by omega) (UI.zero ht) ?_) (by (repeat' first | exact LSub.e | refine LSub.n ?_ | refine LSub.c ?_ ?_) <;> first | rfl | exact congrArg Sum.inl (by first | rfl | omega | omega) | exact congrArg (fun z : Int => (vL z : AV)) (by first | rfl | omega | omega))
      generalize hs : lp (usS (h 81) k) m 0 (t.1, t.2.1, 0) = s at ui ⊢
      have ui2 := ui
      obtain ⟨u1, u2, u3, u4, u5, u6⟩ := ui2
      have ht2 := ht
      obtain ⟨a1, a2, a3, a4, a5, a6, a7⟩ := ht2
      refine AW.aload_n (pc' := 224) dX12_unseen_223 rfl ?_
      refine AW.getI (pc' := 227) dX12_unseen_224 ly_57 fX12_283 rfl (fun r224 => ?_)
      try simp only [f1, f2, f3, f4, Int.toNat_natCast] at r224 ⊢
      refine AW.iload_n (pc' := 228) dX12_unseen_227 rfl ?_
      refine AW.iadd (pc' := 229) dX12_unseen_228 ?_
      refine AW.iload (pc' := 231) dX12_unseen_229 rfl ?_
      refine AW.isub (pc' := 232) dX12_unseen_231 ?_
      refine AW.if_eq (tgt := 296) (pc' := 235) dX12_unseen_232 (by first | assumption | omega | (constructor <;> omega) | (simp only [Int.toNat_natCast]; omega) | exact b2_in _) (fun c232 => ?_) (fun c232 => ?_)
      · refine AW.iinc5 (pc' := 299) dX12_unseen_296 (by decide) rfl ?_
        refine AW.goto (tgt := 144) dX12_unseen_299 ?_
        exact AW.weak (ih (k + 1) ((stS t m (h 81) b) k acc) (by omega) (by first | omega | ((unfold stS; rw [hs]; exact stV_in ui i0 ht.1 ht.2.1))) kk) (by (repeat' first | exact LSub.e | refine LSub.n ?_ | refine LSub.c ?_ ?_) <;> first | rfl | exact congrArg Sum.inl (by first | rfl | omega | (unfold stS stV; rw [hs]; first | (rw [if_pos (by omega)]; done) | (rw [if_neg (by omega), if_pos (by omega)]; rfl) | (rw [if_neg (by omega), if_neg (by omega)]; rfl))) | exact congrArg (fun z : Int => (vL z : AV)) (by first | rfl | omega | (unfold stS stV; rw [hs]; first | (rw [if_pos (by omega)]; done) | (rw [if_neg (by omega), if_pos (by omega)]; rfl) | (rw [if_neg (by omega), if_neg (by omega)]; rfl))))
      · refine AW.aload_n (pc' := 236) dX12_unseen_235 rfl ?_
        refine AW.getI (pc' := 239) dX12_unseen_236 ly_57 fX12_289 rfl (fun r236 => ?_)
        try simp only [f1, f2, f3, f4, Int.toNat_natCast] at r236 ⊢
        refine AW.iload (pc' := 241) dX12_unseen_239 rfl ?_
        refine AW.iadd (pc' := 242) dX12_unseen_241 ?_
        refine AW.if_ne (tgt := 248) (pc' := 245) dX12_unseen_242 (by first | assumption | omega | (constructor <;> omega) | (simp only [Int.toNat_natCast]; omega) | exact b2_in _) (fun c242 => ?_) (fun c242 => ?_)
        · refine AW.iload (pc' := 250) dX12_unseen_248 rfl ?_
          refine AW.aload_n (pc' := 251) dX12_unseen_250 rfl ?_
          refine AW.getI (pc' := 254) dX12_unseen_251 ly_57 fX12_283 rfl (fun r251 => ?_)
          try simp only [f1, f2, f3, f4, Int.toNat_natCast] at r251 ⊢
          refine AW.iload_n (pc' := 255) dX12_unseen_254 rfl ?_
          refine AW.iadd (pc' := 256) dX12_unseen_255 ?_
          refine AW.iload (pc' := 258) dX12_unseen_256 rfl ?_
          refine AW.isub (pc' := 259) dX12_unseen_258 ?_
          refine AW.iload (pc' := 261) dX12_unseen_259 rfl ?_
          refine AW.aload_n (pc' := 262) dX12_unseen_261 rfl ?_
          refine AW.getI (pc' := 265) dX12_unseen_262 ly_57 fX12_289 rfl (fun r262 => ?_)
          try simp only [f1, f2, f3, f4, Int.toNat_natCast] at r262 ⊢
          refine AW.iload (pc' := 267) dX12_unseen_265 rfl ?_
          refine AW.iadd (pc' := 268) dX12_unseen_267 ?_
          refine AW.invS4 (pc' := 271) dX12_unseen_268 mlX12_302 mX12_besideOf (c_X12_besideOf (dep := dep - 1) (by first | assumption | omega | (constructor <;> omega) | (simp only [Int.toNat_natCast]; omega) | exact b2_in _) (by first | assumption | omega | (constructor <;> omega) | (simp only [Int.toNat_natCast]; omega) | exact b2_in _) (by first | assumption | omega | (constructor <;> omega) | (simp only [Int.toNat_natCast]; omega) | exact b2_in _) (by first | assumption | omega | (constructor <;> omega) | (simp only [Int.toNat_natCast]; omega) | exact b2_in _)) ?_
          try simp only [Int.toNat_natCast, f1, f2, f3, f4, Int.toNat_natCast]
          have bb := stB ui ht.1 ht.2.1 (by omega) (by omega)
          refine AW.istore9 (pc' := 273) dX12_unseen_271 (by decide) rfl ?_
          refine AW.iload_n (pc' := 274) dX12_unseen_273 rfl ?_
          refine AW.if_ne (tgt := 287) (pc' := 277) dX12_unseen_274 (by first | assumption | omega | (constructor <;> omega) | (simp only [Int.toNat_natCast]; omega) | exact b2_in _) (fun c274 => ?_) (fun c274 => ?_)
          · refine AW.iload (pc' := 289) dX12_unseen_287 rfl ?_
            refine AW.iload (pc' := 291) dX12_unseen_289 rfl ?_
            refine AW.invS2 (pc' := 294) dX12_unseen_291 mlX12_316 mX12_greatest (c_X12_greatest (dep := dep - 1) (by first | assumption | omega | (constructor <;> omega) | (simp only [Int.toNat_natCast]; omega) | exact b2_in _) (by first | assumption | omega | (constructor <;> omega) | (simp only [Int.toNat_natCast]; omega) | exact b2_in _)) ?_
            try simp only [Int.toNat_natCast, f1, f2, f3, f4, Int.toNat_natCast]
            refine AW.istore4 (pc' := 296) dX12_unseen_294 (by decide) rfl ?_
            refine AW.iinc5 (pc' := 299) dX12_unseen_296 (by decide) rfl ?_
            refine AW.goto (tgt := 144) dX12_unseen_299 ?_
            exact AW.weak (ih (k + 1) ((stS t m (h 81) b) k acc) (by omega) (by first | omega | ((unfold stS; rw [hs]; exact stV_in ui i0 ht.1 ht.2.1))) kk) (by (repeat' first | exact LSub.e | refine LSub.n ?_ | refine LSub.c ?_ ?_) <;> first | rfl | exact congrArg Sum.inl (by first | rfl | omega | (unfold stS stV; rw [hs]; first | (rw [if_pos (by omega)]; done) | (rw [if_neg (by omega), if_pos (by omega)]; rfl) | (rw [if_neg (by omega), if_neg (by omega)]; rfl))) | exact congrArg (fun z : Int => (vL z : AV)) (by first | rfl | omega | (unfold stS stV; rw [hs]; first | (rw [if_pos (by omega)]; done) | (rw [if_neg (by omega), if_pos (by omega)]; rfl) | (rw [if_neg (by omega), if_neg (by omega)]; rfl))))
          · refine AW.iload (pc' := 279) dX12_unseen_277 rfl ?_
            refine AW.iload (pc' := 281) dX12_unseen_279 rfl ?_
            refine AW.invS2 (pc' := 284) dX12_unseen_281 mlX12_313 mX12_least (c_X12_least (dep := dep - 1) (by first | assumption | omega | (constructor <;> omega) | (simp only [Int.toNat_natCast]; omega) | exact b2_in _) (by first | assumption | omega | (constructor <;> omega) | (simp only [Int.toNat_natCast]; omega) | exact b2_in _)) ?_
            try simp only [Int.toNat_natCast, f1, f2, f3, f4, Int.toNat_natCast]
            refine AW.goto (tgt := 294) dX12_unseen_284 ?_
            refine AW.istore4 (pc' := 296) dX12_unseen_294 (by decide) rfl ?_
            refine AW.iinc5 (pc' := 299) dX12_unseen_296 (by decide) rfl ?_
            refine AW.goto (tgt := 144) dX12_unseen_299 ?_
            exact AW.weak (ih (k + 1) ((stS t m (h 81) b) k acc) (by omega) (by first | omega | ((unfold stS; rw [hs]; exact stV_in ui i0 ht.1 ht.2.1))) kk) (by (repeat' first | exact LSub.e | refine LSub.n ?_ | refine LSub.c ?_ ?_) <;> first | rfl | exact congrArg Sum.inl (by first | rfl | omega | (unfold stS stV; rw [hs]; first | (rw [if_pos (by omega)]; done) | (rw [if_neg (by omega), if_pos (by omega)]; rfl) | (rw [if_neg (by omega), if_neg (by omega)]; rfl))) | exact congrArg (fun z : Int => (vL z : AV)) (by first | rfl | omega | (unfold stS stV; rw [hs]; first | (rw [if_pos (by omega)]; done) | (rw [if_neg (by omega), if_pos (by omega)]; rfl) | (rw [if_neg (by omega), if_neg (by omega)]; rfl))))
        · refine AW.goto (tgt := 296) dX12_unseen_245 ?_
          refine AW.iinc5 (pc' := 299) dX12_unseen_296 (by decide) rfl ?_
          refine AW.goto (tgt := 144) dX12_unseen_299 ?_
          exact AW.weak (ih (k + 1) ((stS t m (h 81) b) k acc) (by omega) (by first | omega | ((unfold stS; rw [hs]; exact stV_in ui i0 ht.1 ht.2.1))) kk) (by (repeat' first | exact LSub.e | refine LSub.n ?_ | refine LSub.c ?_ ?_) <;> first | rfl | exact congrArg Sum.inl (by first | rfl | omega | (unfold stS stV; rw [hs]; first | (rw [if_pos (by omega)]; done) | (rw [if_neg (by omega), if_pos (by omega)]; rfl) | (rw [if_neg (by omega), if_neg (by omega)]; rfl))) | exact congrArg (fun z : Int => (vL z : AV)) (by first | rfl | omega | (unfold stS stV; rw [hs]; first | (rw [if_pos (by omega)]; done) | (rw [if_neg (by omega), if_pos (by omega)]; rfl) | (rw [if_neg (by omega), if_neg (by omega)]; rfl))))
set_option maxRecDepth 100000 in
set_option maxHeartbeats 4000000 in
theorem c_X12_unseen {K : KT} {dep : Nat} {h : Hp} {a b : Int} (hd : 3 ≤ dep) (hI : IMa h) (q1 : inI a) (q2 : inI b) : AMp K yX12_unseen cX12_unseen 10 (some .int) dep [vR 57, vI a, vI b] h (some (vI (if ¬ (0 ≤ a ∧ (0 ≤ a.tdiv 100 ∧ a.tdiv 100 < h 57 15) ∧ 0 ≤ b ∧ b ≤ 1) then -2000000000 else unM h (a.tdiv 100) (a.tmod 100) b))) (fun x => EP mscr h x) := by
  refine AM.of (own := RX12) (ls := [some (vR 57), some (vI a), some (vI b), none, none, none, none, none, none, none]) rfl (by decide +kernel) (by exact Nat.le_of_ble_eq_true rfl) rfl (fun hO => ?_)
  have g6 := hI.2.2.2.1
  have g7 := hI.2.2.2.2.1
  have g8 := hI.2.1.2.1
  have d1 : 0 ≤ a → 0 ≤ a.tdiv 100 ∧ a.tdiv 100 ≤ a := fun z => tdiv_le z (by decide)
  have m1 := tmod_bounds (a := a) (M := 100) (by decide)
  have v1 : inI (a.tmod 100) := by constructor <;> omega
  refine AW.iload_n (pc' := 1) dX12_unseen_0 rfl ?_
  refine AW.if_lt (tgt := 24) (pc' := 4) dX12_unseen_1 (by first | assumption | omega | (constructor <;> omega) | (simp only [Int.toNat_natCast]; omega) | exact b2_in _) (fun c1 => ?_) (fun c1 => ?_)
  · refine AW.ldc (v := -2000000000) (pc' := 26) dX12_unseen_24 kX12_156 ?_
    refine AW.iret dX12_unseen_26 ?_ ?_
    · refine congrArg (fun z : Int => (some (vI z) : Option AV)) ?_
      first | (rw [if_pos (by omega)]; done) | (rw [if_neg (by omega)]; unfold unM; rw [if_pos (by omega)])
    · first | exact EP.rf | exact e2
  · refine AW.aload_n (pc' := 5) dX12_unseen_4 rfl ?_
    refine AW.iload_n (pc' := 6) dX12_unseen_5 rfl ?_
    refine AW.bipush (pc' := 8) dX12_unseen_6 (by decide) ?_
    refine AW.idiv (pc' := 9) dX12_unseen_8 (by first | assumption | omega | (constructor <;> omega) | (simp only [Int.toNat_natCast]; omega) | exact b2_in _) (by first | assumption | omega | (constructor <;> omega) | (simp only [Int.toNat_natCast]; omega) | exact b2_in _) (by first | assumption | omega | (constructor <;> omega) | (simp only [Int.toNat_natCast]; omega) | exact b2_in _) ?_
    refine AW.invV1 (pc' := 12) dX12_unseen_9 mlX12_135 mX12_isCourse ly_57 rfl (c_X12_isCourse (dep := dep - 1) (by first | assumption | omega | (constructor <;> omega) | (simp only [Int.toNat_natCast]; omega) | exact b2_in _)) ?_
    try simp only [Int.toNat_natCast, u0, w13, w66, w68, w69, w70, w67, w65, w63, w15, w14]
    refine AW.ifb_eq (tgt := 24) (pc' := 15) dX12_unseen_12 (fun c12 => ?_) (fun c12 => ?_)
    · refine AW.ldc (v := -2000000000) (pc' := 26) dX12_unseen_24 kX12_156 ?_
      refine AW.iret dX12_unseen_26 ?_ ?_
      · refine congrArg (fun z : Int => (some (vI z) : Option AV)) ?_
        first | (rw [if_pos (by omega)]; done) | (rw [if_neg (by omega)]; unfold unM; rw [if_pos (by omega)])
      · first | exact EP.rf | exact e2
    · refine AW.iload_n (pc' := 16) dX12_unseen_15 rfl ?_
      refine AW.iconst (pc' := 17) dX12_unseen_16 ?_
      refine AW.iconst (pc' := 18) dX12_unseen_17 ?_
      refine AW.invS3 (pc' := 21) dX12_unseen_18 mlX12_117 mX12_isIn (c_X12_isIn (dep := dep - 1) (by first | assumption | omega | (constructor <;> omega) | (simp only [Int.toNat_natCast]; omega) | exact b2_in _) (by first | assumption | omega | (constructor <;> omega) | (simp only [Int.toNat_natCast]; omega) | exact b2_in _) (by first | assumption | omega | (constructor <;> omega) | (simp only [Int.toNat_natCast]; omega) | exact b2_in _)) ?_
      try simp only [Int.toNat_natCast, u0, w13, w66, w68, w69, w70, w67, w65, w63, w15, w14]
      refine AW.ifb_ne (tgt := 27) (pc' := 24) dX12_unseen_21 (fun c21 => ?_) (fun c21 => ?_)
      · have c9 : (0 ≤ a ∧ (0 ≤ a.tdiv 100 ∧ a.tdiv 100 < h 57 15) ∧ 0 ≤ b ∧ b ≤ 1) := by omega
        have v2 : inI (a.tdiv 100) := by constructor <;> omega
        refine AW.aload_n (pc' := 28) dX12_unseen_27 rfl ?_
        refine AW.iload_n (pc' := 29) dX12_unseen_28 rfl ?_
        refine AW.bipush (pc' := 31) dX12_unseen_29 (by decide) ?_
        refine AW.idiv (pc' := 32) dX12_unseen_31 (by first | assumption | omega | (constructor <;> omega) | (simp only [Int.toNat_natCast]; omega) | exact b2_in _) (by first | assumption | omega | (constructor <;> omega) | (simp only [Int.toNat_natCast]; omega) | exact b2_in _) (by first | assumption | omega | (constructor <;> omega) | (simp only [Int.toNat_natCast]; omega) | exact b2_in _) ?_
        refine AW.iload_n (pc' := 33) dX12_unseen_32 rfl ?_
        refine AW.bipush (pc' := 35) dX12_unseen_33 (by decide) ?_
        refine AW.irem (pc' := 36) dX12_unseen_35 (by first | assumption | omega | (constructor <;> omega) | (simp only [Int.toNat_natCast]; omega) | exact b2_in _) (by first | assumption | omega | (constructor <;> omega) | (simp only [Int.toNat_natCast]; omega) | exact b2_in _) (by first | assumption | omega | (constructor <;> omega) | (simp only [Int.toNat_natCast]; omega) | exact b2_in _) ?_
        refine AW.invQ2v (pc' := 39) dX12_unseen_36 mlX12_298 mX12_findRace ly_57 rfl (c_X12_findRace (dep := dep - 1) (by first | assumption | omega | (constructor <;> omega) | (simp only [Int.toNat_natCast]; omega) | exact b2_in _) (by first | assumption | omega | (constructor <;> omega) | (simp only [Int.toNat_natCast]; omega) | exact b2_in _) (by first | assumption | omega | (constructor <;> omega) | (simp only [Int.toNat_natCast]; omega) | exact b2_in _) (by first | assumption | omega | (constructor <;> omega) | (simp only [Int.toNat_natCast]; omega) | exact b2_in _)) (fun h36 s36 => ?_)
        try simp only [Int.toNat_natCast, u0, w13, w66, w68, w69, w70, w67, w65, w63, w15, w14]
        obtain ⟨e2, t2⟩ := s36
        have ri := raM_in hI (a.tdiv 100) (a.tmod 100)
        have u0 : h36 57 45 = (raM h (a.tdiv 100) (a.tmod 100)).2 := by rw [← t2]; rfl
        have hI2 := hI.ep e2
        have hl := hcL_len (h 67) (h 68) (a.tdiv 100) (a.tmod 100) (h 70) (h 63) (lvM h) (h 57 16).toNat 0 ((0, 0, 0, 0), 0)
        have u9 := ri.2.1
        have w13 : h36 57 16 = h 57 16 := e2 57 16 rfl
        have w66 := e2.row 66 (fun _ => rfl)
        have w68 := e2.row 68 (fun _ => rfl)
        have w69 := e2.row 69 (fun _ => rfl)
        have w70 := e2.row 70 (fun _ => rfl)
        have w67 := e2.row 67 (fun _ => rfl)
        have w65 := e2.row 65 (fun _ => rfl)
        have w63 := e2.row 63 (fun _ => rfl)
        have w15 : h36 57 15 = h 57 15 := e2 57 15 rfl
        have w14 : h36 57 13 = h 57 13 := e2 57 13 rfl
        have hI_w := hI.ep e2
        refine AW.aload_n (pc' := 40) dX12_unseen_39 rfl ?_
        refine AW.getI (pc' := 43) dX12_unseen_40 ly_57 fX12_292 rfl (fun r40 => ?_)
        try simp only [u0, w13, w66, w68, w69, w70, w67, w65, w63, w15, w14] at r40 ⊢
        refine AW.bipush (pc' := 45) dX12_unseen_43 (by decide) ?_
        refine AW.icmp_le (tgt := 51) (pc' := 48) dX12_unseen_45 (by first | assumption | omega | (constructor <;> omega) | (simp only [Int.toNat_natCast]; omega) | exact b2_in _) (by first | assumption | omega | (constructor <;> omega) | (simp only [Int.toNat_natCast]; omega) | exact b2_in _) (fun c45 => ?_) (fun c45 => ?_)
        · refine AW.aload_n (pc' := 52) dX12_unseen_51 rfl ?_
          refine AW.getI (pc' := 55) dX12_unseen_52 ly_57 fX12_292 rfl (fun r52 => ?_)
          try simp only [u0, w13, w66, w68, w69, w70, w67, w65, w63, w15, w14] at r52 ⊢
          refine AW.if_ne (tgt := 61) (pc' := 58) dX12_unseen_55 (by first | assumption | omega | (constructor <;> omega) | (simp only [Int.toNat_natCast]; omega) | exact b2_in _) (fun c55 => ?_) (fun c55 => ?_)
          · refine AW.iconst (pc' := 62) dX12_unseen_61 ?_
            refine AW.istore3n (pc' := 63) dX12_unseen_62 (by decide) rfl ?_
            refine AW.iconst (pc' := 64) dX12_unseen_63 ?_
            refine AW.istore4 (pc' := 66) dX12_unseen_64 (by decide) rfl ?_
            refine AW.weak (lp_X12_unseenH hI2 (a := a) (b := b) (by omega) v2 v1 (by omega) (h36 57 16).toNat 0 [] h36 (by rw [w13]; omega) EX.rf (fun j hj => absurd hj (Nat.not_lt_zero _)) (by simp) (fun h3 e3 t3 => ?_)) (by (repeat' first | exact LSub.e | refine LSub.n ?_ | refine LSub.c ?_ ?_) <;> first | rfl | exact congrArg Sum.inl (by first | rfl | omega | omega) | exact congrArg (fun z : Int => (vL z : AV)) (by first | rfl | omega | omega))
            have z : ([] ++ hcL (h36 67) (h36 68) (a.tdiv 100) (a.tmod 100) (h36 70) (lvM h36) (h36 57 16).toNat 0 : List Int) = hcM h (a.tdiv 100) (a.tmod 100) := by
              simp only [hcM, lvM, w13, w67, w68, w70, w69, w65, List.nil_append]
            rw [z] at t3
            rw [z]
            have e4 : EP mscr h h3 := e2.tr e3.ep81
            have rg : (hcM h (a.tdiv 100) (a.tmod 100)).length = (raM h (a.tdiv 100) (a.tmod 100)).2 := by
              have y := hl
              show ((hcL _ _ _ _ _ _ _ _).length : Int) = _
              simp only [raM, raceF]
              simp only [lvM] at y ⊢
              omega
            have m12 : (hcM h (a.tdiv 100) (a.tmod 100)).length ≤ 12 := by omega
            have hr3 : ∀ j : Nat, j < (hcM h (a.tdiv 100) (a.tmod 100)).length → 5 ≤ h3 81 j ∧ h3 81 j ≤ 59998 := fun j hj => by
              rw [t3 j hj, List.getD_eq_getElem?_getD, List.getElem?_eq_getElem hj]
              refine hcL_in (h 57 16).toNat 0 (fun i _ hi => ?_) _ (List.getElem_mem hj)
              have := lvl_in hI.2.2.2 hI.2.2.1 (r := i) (by omega)
              exact ⟨this.2.2.1, this.2.2.2⟩
            have pp := p2_le ⟨_, Nat.lt_succ_of_le m12⟩
            simp only at pp
            refine AW.ldc (v := -2000000000) (pc' := 139) dX12_unseen_137 kX12_156 ?_
            refine AW.istore4 (pc' := 141) dX12_unseen_139 (by decide) rfl ?_
            refine AW.iconst (pc' := 142) dX12_unseen_141 ?_
            refine AW.istore5 (pc' := 144) dX12_unseen_142 (by decide) rfl ?_
            have u1 : h3 57 41 = (raM h (a.tdiv 100) (a.tmod 100)).1.1 := by rw [e3 57 rfl, ← t2]; rfl
            have u2 : h3 57 43 = (raM h (a.tdiv 100) (a.tmod 100)).1.2.1 := by rw [e3 57 rfl, ← t2]; rfl
            have u3 : h3 57 42 = (raM h (a.tdiv 100) (a.tmod 100)).1.2.2.1 := by rw [e3 57 rfl, ← t2]; rfl
            have u4 : h3 57 44 = (raM h (a.tdiv 100) (a.tmod 100)).1.2.2.2 := by rw [e3 57 rfl, ← t2]; rfl
            refine AW.weak (lp_X12_unseenS (a := a) (t := (raM h (a.tdiv 100) (a.tmod 100)).1) (p2_of m12) pp (b := b) (by omega) m12 hr3 (TI.up ri.1 (by decide)) u1 u2 u3 u4 (by omega) (2 ^ (hcM h (a.tdiv 100) (a.tmod 100)).length) 0 (-2000000000) (by push_cast; omega) (Or.inl rfl) ?_) (by (repeat' first | exact LSub.e | refine LSub.n ?_ | refine LSub.c ?_ ?_) <;> first | rfl | exact congrArg Sum.inl (by first | rfl | omega | omega) | exact congrArg (fun z : Int => (vL z : AV)) (by first | rfl | omega | omega))
            refine AW.iload (pc' := 304) dX12_unseen_302 rfl ?_
            refine AW.iret dX12_unseen_304 ?_ ?_
            · refine congrArg (fun z : Int => (some (vI z) : Option AV)) ?_
              rw [if_neg (fun y => y c9)]
              unfold unM
              rw [if_neg (by omega)]
              rw [stS_congr (row := h3 81) (row2 := fun j => (hcM h (a.tdiv 100) (a.tmod 100)).getD j 0) b (fun j hj => t3 j hj)]
            · exact e4
          · refine AW.ldc (v := -2000000000) (pc' := 60) dX12_unseen_58 kX12_156 ?_
            refine AW.iret dX12_unseen_60 ?_ ?_
            · refine congrArg (fun z : Int => (some (vI z) : Option AV)) ?_
              first | (rw [if_pos (by omega)]; done) | (rw [if_neg (by omega)]; unfold unM; rw [if_pos (by omega)])
            · first | exact EP.rf | exact e2
        · refine AW.ldc (v := -2000000000) (pc' := 50) dX12_unseen_48 kX12_156 ?_
          refine AW.iret dX12_unseen_50 ?_ ?_
          · refine congrArg (fun z : Int => (some (vI z) : Option AV)) ?_
            first | (rw [if_pos (by omega)]; done) | (rw [if_neg (by omega)]; unfold unM; rw [if_pos (by omega)])
          · first | exact EP.rf | exact e2
      · refine AW.ldc (v := -2000000000) (pc' := 26) dX12_unseen_24 kX12_156 ?_
        refine AW.iret dX12_unseen_26 ?_ ?_
        · refine congrArg (fun z : Int => (some (vI z) : Option AV)) ?_
          first | (rw [if_pos (by omega)]; done) | (rw [if_neg (by omega)]; unfold unM; rw [if_pos (by omega)])
        · first | exact EP.rf | exact e2
