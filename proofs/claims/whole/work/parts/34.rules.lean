/-! copies of rows of bytes and of longs; i2c -/
theorem fitB {a : Int} (ha : inB a) : fits .byte (.int (Int32.ofInt a)) = true := by
  have e : Int32.ofInt a = (Int32.ofInt a).toInt8.toInt32 := by
    symm
    apply Int32.toInt_inj.mp
    rw [Int8.toInt_toInt32, Int32.toInt_toInt8, i32of (by unfold inB at ha; unfold inI; omega)]
    unfold inB at ha
    exact Int.bmod_eq_of_le (by omega) (by omega)
  rw [e]
  exact pk_fb _
theorem AW.copyB {K : KT} {X : XT} {own : String} {cc : ByteArray} {nL : Nat} {ret : Option FieldType} {dep pc pc' : Nat} {ls : List (Option AV)} {st : List AV} {h : Hp} {idx k0 k1 n0 n1 : Nat} {l0 l1 : List Nat} {sp dp n : Int} (hd : decode cc pc = .ok (.invokestatic idx, 3)) (hl : Cond.methodLink own idx arraycopyName ∈ wsL_law) (h0 : LY[k0]? = some (2, n0, l0)) (h1 : LY[k1]? = some (2, n1, l1)) (b1 : 0 ≤ sp) (b2 : 0 ≤ dp) (b3 : 0 ≤ n) (b4 : sp + n ≤ n0) (b5 : dp + n ≤ n1) (b6 : n0 ≤ 2147483647) (b7 : n1 ≤ 2147483647) (kk : AW K X own cc nL ret dep pc' ls st (hcpy h k0 k1 sp.toNat dp.toNat n.toNat)) (hw : stw st ≤ 4 := by exact Nat.le_of_ble_eq_true rfl) (hdep : 1 ≤ dep := by omega) (hp : pc + 3 = pc' := by rfl) : AW K X own cc nL ret dep pc ls (vI n :: vI dp :: vR k1 :: vI sp :: vR k0 :: st) h := by
  subst hp
  intro p e R s m args below meth c H locs lsA C Wx q
  obtain ⟨hx, hb, hre, hml, hown, hts, hlk, g1, g2, g3, g4, hD, hA, hK, hS⟩ := id C
  simp only [List.map, cv]
  have e' : ∀ z : Int, 0 ≤ z → z ≤ 2147483647 → ¬ Int32.ofInt z < 0 ∧ (Int32.ofInt z).toNatClampNeg = z.toNat := fun z z0 z1 => by
    have hi : inI z := by unfold inI; omega
    refine ⟨fun y => ?_, by show (Int32.ofInt z).toInt.toNat = z.toNat; rw [i32of hi]⟩
    have := (i32lt hi inI_0).mp y
    omega
  obtain ⟨c1, d1⟩ := e' sp b1 (by omega)
  obtain ⟨c2, d2⟩ := e' dp b2 (by omega)
  obtain ⟨c3, d3⟩ := e' n b3 (by omega)
  refine va_copyi (D := K.2.1) (cl := vwCl) (ws := wld K h) (ty := .byte) hx hb (by rw [hml]; exact q.1.symm) hown (hts _ hl) (hts _ sys_words.1) (hts _ sys_words.2.1) (hts _ sys_words.2.2) hK Wx.1 (wld_D hD (X.1 s) hA h) Wx.2.1 k0 k1 1 1 (wld_at h0) (wld_at h1) rfl rfl rfl c1 c2 c3 (by rw [d1, d3]; omega) (by rw [d2, d3]; omega) (fun i _ => fitB (Wx.2.2.bytes h0 _)) (by omega) ?_ hd (fun H1 locs1 hP1 _ hS1 => ?_)
  · have e2 : nativeFrameWords "java/lang/System" "arraycopy" 5 ≤ 40 := by decide +kernel
    have e3 := stw_cv (ad := K.2.2.1) st
    omega
  · rw [d1, d2, d3] at hP1
    rw [wld_set (K := K) (h' := hcpy h k0 k1 sp.toNat dp.toNat n.toNat) (e := Sum.inl (K.2.2.2 1, n1, Sum.inl (va_cpy (fun j => Int32.ofInt (h k0 j)) (fun j => Int32.ofInt (h k1 j)) sp.toNat dp.toNat n.toNat))) h1 ?_ hcpy_other] at hP1
    · exact kk p e R s m args below meth c H1 locs1 lsA C ⟨hP1, hS1, Wx.2.2.cpy h0 h1 (Or.inr (Or.inl rfl))⟩ q
    · show (Sum.inl _ : va_E) = Sum.inl _
      congr 4
      funext b
      unfold va_cpy hcpy
      split
      · rename_i z
        rw [if_pos ⟨rfl, z⟩]
      · rename_i z
        rw [if_neg (fun y => z y.2)]
theorem AW.copyL {K : KT} {X : XT} {own : String} {cc : ByteArray} {nL : Nat} {ret : Option FieldType} {dep pc pc' : Nat} {ls : List (Option AV)} {st : List AV} {h : Hp} {idx k0 k1 n0 n1 : Nat} {l0 l1 : List Nat} {sp dp n : Int} (hd : decode cc pc = .ok (.invokestatic idx, 3)) (hl : Cond.methodLink own idx arraycopyName ∈ wsL_law) (h0 : LY[k0]? = some (3, n0, l0)) (h1 : LY[k1]? = some (3, n1, l1)) (b1 : 0 ≤ sp) (b2 : 0 ≤ dp) (b3 : 0 ≤ n) (b4 : sp + n ≤ n0) (b5 : dp + n ≤ n1) (b6 : n0 ≤ 2147483647) (b7 : n1 ≤ 2147483647) (kk : AW K X own cc nL ret dep pc' ls st (hcpy h k0 k1 sp.toNat dp.toNat n.toNat)) (hw : stw st ≤ 4 := by exact Nat.le_of_ble_eq_true rfl) (hdep : 1 ≤ dep := by omega) (hp : pc + 3 = pc' := by rfl) : AW K X own cc nL ret dep pc ls (vI n :: vI dp :: vR k1 :: vI sp :: vR k0 :: st) h := by
  subst hp
  intro p e R s m args below meth c H locs lsA C Wx q
  obtain ⟨hx, hb, hre, hml, hown, hts, hlk, g1, g2, g3, g4, hD, hA, hK, hS⟩ := id C
  simp only [List.map, cv]
  have e' : ∀ z : Int, 0 ≤ z → z ≤ 2147483647 → ¬ Int32.ofInt z < 0 ∧ (Int32.ofInt z).toNatClampNeg = z.toNat := fun z z0 z1 => by
    have hi : inI z := by unfold inI; omega
    refine ⟨fun y => ?_, by show (Int32.ofInt z).toInt.toNat = z.toNat; rw [i32of hi]⟩
    have := (i32lt hi inI_0).mp y
    omega
  obtain ⟨c1, d1⟩ := e' sp b1 (by omega)
  obtain ⟨c2, d2⟩ := e' dp b2 (by omega)
  obtain ⟨c3, d3⟩ := e' n b3 (by omega)
  refine va_copyl (D := K.2.1) (cl := vwCl) (ws := wld K h) (ty := .long) hx hb (by rw [hml]; exact q.1.symm) hown (hts _ hl) (hts _ sys_words.1) (hts _ sys_words.2.1) (hts _ sys_words.2.2) hK Wx.1 (wld_D hD (X.1 s) hA h) Wx.2.1 k0 k1 2 2 (wld_at h0) (wld_at h1) rfl rfl rfl c1 c2 c3 (by rw [d1, d3]; omega) (by rw [d2, d3]; omega) (fun i _ => rfl) (by omega) ?_ hd (fun H1 locs1 hP1 _ hS1 => ?_)
  · have e2 : nativeFrameWords "java/lang/System" "arraycopy" 5 ≤ 40 := by decide +kernel
    have e3 := stw_cv (ad := K.2.2.1) st
    omega
  · rw [d1, d2, d3] at hP1
    rw [wld_set (K := K) (h' := hcpy h k0 k1 sp.toNat dp.toNat n.toNat) (e := Sum.inl (K.2.2.2 2, n1, Sum.inr (Sum.inl (va_cpy (fun j => Int64.ofInt (h k0 j)) (fun j => Int64.ofInt (h k1 j)) sp.toNat dp.toNat n.toNat)))) h1 ?_ hcpy_other] at hP1
    · exact kk p e R s m args below meth c H1 locs1 lsA C ⟨hP1, hS1, Wx.2.2.cpy h0 h1 (Or.inr (Or.inr rfl))⟩ q
    · show (Sum.inl _ : va_E) = Sum.inl _
      congr 5
      funext b
      unfold va_cpy hcpy
      split
      · rename_i z
        rw [if_pos ⟨rfl, z⟩]
      · rename_i z
        rw [if_neg (fun y => z y.2)]
theorem AW.i2c {K : KT} {X : XT} {own : String} {cc : ByteArray} {nL : Nat} {ret : Option FieldType} {dep pc pc' : Nat} {ls : List (Option AV)} {st : List AV} {h : Hp} {a : Int} (hd : decode cc pc = .ok (.i2c, 1)) (k : AW K X own cc nL ret dep pc' ls (vI ((Int32.ofInt a).toUInt32 % 65536).toInt32.toInt :: st) h) (hp : pc + 1 = pc' := by rfl) : AW K X own cc nL ret dep pc ls (vI a :: st) h := by
  subst hp
  intro p e R s m args below meth c H locs lsA C Wx q
  have w := k p e R s m args below meth c H locs lsA C Wx q
  simp only [List.map, cv] at w ⊢
  rw [Int32.ofInt_toInt] at w
  exact lv_i2c C.1 C.2.1 hd rfl w
theorem i2c_all : ∀ i : Fin 256, ((Int32.ofInt (i.val : Int)).toUInt32 % 65536).toInt32.toInt = (i.val : Int) := by decide +kernel
theorem i2c_of {a : Int} (h0 : 0 ≤ a) (h1 : a ≤ 255) : ((Int32.ofInt a).toUInt32 % 65536).toInt32.toInt = a := by
  have q := i2c_all ⟨a.toNat, by omega⟩
  simp only [Int.toNat_of_nonneg h0] at q
  exact q
