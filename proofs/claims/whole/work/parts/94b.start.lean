theorem ws_perm {D : va_G} {cA : Nat → ClassId} {q0 : Nat} {f : Nat → Nat} {H : Heap} (h : va_P D vwCl (WX11r cA q0 f) H) : va_P D vwCl (WX11 cA q0 f) H := h.sub (ws' := WX11 cA q0 f) [0, 1, 2, 3, 4, 5, 6, 7, 8, 9, 10, 11, 12, 13, 14, 15, 16, 17, 18, 19, 20, 21, 22, 23, 24, 25, 26, 27, 28, 29, 30, 31, 32, 33, 34, 35, 37, 38, 39, 36, 40, 41, 42, 43, 44, 45, 46, 47, 48, 49, 50, 51, 52, 53, 54, 55, 56] rfl
theorem ws_permD {A : Nat → Prop} {cA : Nat → ClassId} {q0 : Nat} {f : Nat → Nat} (h : va_D A (WX11r cA q0 f)) : va_D A (WX11 cA q0 f) := h.sub (ws' := WX11 cA q0 f) [0, 1, 2, 3, 4, 5, 6, 7, 8, 9, 10, 11, 12, 13, 14, 15, 16, 17, 18, 19, 20, 21, 22, 23, 24, 25, 26, 27, 28, 29, 30, 31, 32, 33, 34, 35, 37, 38, 39, 36, 40, 41, 42, 43, 44, 45, 46, 47, 48, 49, 50, 51, 52, 53, 54, 55, 56] (by decide) rfl
theorem wx11_len (cA : Nat → ClassId) (q0 : Nat) (f : Nat → Nat) : (WX11 cA q0 f).length = 57 := rfl
theorem rng_map {n : Nat} (wr tl : va_W) (hn : wr.length = n) : (List.range n).map (fun i => (wr ++ tl)[i]?) = wr.map some := by
  subst hn
  apply List.ext_getElem?
  intro i
  rw [List.getElem?_map, List.getElem?_map]
  by_cases h : i < wr.length
  · rw [List.getElem?_range h]
    simp only [Option.map_some]
    rw [List.getElem?_append_left h, List.getElem?_eq_getElem h]
    rfl
  · rw [List.getElem?_eq_none (by simpa using h), List.getElem?_eq_none (by omega)]
    rfl
theorem last_map {n : Nat} (wr : va_W) (e : Nat × va_E) (h : wr.length = n) : [n].map (fun i => (wr ++ [e])[i]?) = [e].map some := by
  subst h
  simp
theorem nd_57 : va_nd (List.range 57) = true := by decide +kernel
theorem dis_57 : ∀ i ∈ List.range 57, i ∉ [57] := by decide +kernel
def WN12 (q1 : Nat) : va_W := [(q1, .inr (12, [.null, .null, .null, .null, .null, .null, .null, .null, .null, .null, .null, .null, .null, .int (Int32.ofInt 0), .int (Int32.ofInt 0), .int (Int32.ofInt 0), .int (Int32.ofInt 0), .int (Int32.ofInt 0), .null, .null, .null, .null, .int (Int32.ofInt 0), .int (Int32.ofInt 0), .null, .null, .null, .null, .null, .int (Int32.ofInt 0), .int (Int32.ofInt 0), .int (Int32.ofInt 0), .int (Int32.ofInt 0), .int (Int32.ofInt 0), .int (Int32.ofInt 0), .int (Int32.ofInt 0), .int (Int32.ofInt 0), .null, .int (Int32.ofInt 0), .int (Int32.ofInt 0), .int (Int32.ofInt 0), .int (Int32.ofInt 0), .int (Int32.ofInt 0), .int (Int32.ofInt 0), .int (Int32.ofInt 0), .int (Int32.ofInt 0), .null, .null, .null, .int (Int32.ofInt 0), .null, .null, .int (Int32.ofInt 0), .int (Int32.ofInt 0), .null, .null, .null, .null, .null]))]
