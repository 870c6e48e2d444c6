set_option maxRecDepth 100000 in
set_option maxHeartbeats 4000000 in
theorem tl_X11_shift00 {K : KT}  {dep : Nat} {h : Hp} {b d e x6 x7 : Int} (q0 : 0 ≤ b ∧ 0 ≤ d ∧ 0 ≤ e) (q1 : b + e ≤ 60) (q2 : d + e ≤ 60) (hd : 1 ≤ dep) :  AW K (XM K (some (vI e)) (hcpy h 51 51 b.toNat d.toNat e.toNat)) RX11 cX11_shift 8 (some .int) dep 111 [some (vR 0), some (vI (0)), some (vI (b)), some (vI (0)), some (vI (d)), some (vI (e)), some (vI (x6)), some (vI (x7))] [] h := by
  refine AW.aload_n (pc' := 112) dX11_shift_111 rfl ?_
  refine AW.getR (pc' := 115) dX11_shift_112 ly_0 fX11_81 rfl ?_
  refine AW.getR (pc' := 118) dX11_shift_115 ly_46 fX11_128 rfl ?_
  refine AW.iload_n (pc' := 119) dX11_shift_118 rfl ?_
  refine AW.aaldL (t := 51) (pc' := 120) dX11_shift_119 ly_50 (by decide) (by decide) (by decide) rfl ?_
  refine AW.iload_n (pc' := 121) dX11_shift_120 rfl ?_
  refine AW.aload_n (pc' := 122) dX11_shift_121 rfl ?_
  refine AW.getR (pc' := 125) dX11_shift_122 ly_0 fX11_81 rfl ?_
  refine AW.getR (pc' := 128) dX11_shift_125 ly_46 fX11_128 rfl ?_
  refine AW.iload_n (pc' := 129) dX11_shift_128 rfl ?_
  refine AW.aaldL (t := 51) (pc' := 130) dX11_shift_129 ly_50 (by decide) (by decide) (by decide) rfl ?_
  refine AW.iload (pc' := 132) dX11_shift_130 rfl ?_
  refine AW.iload (pc' := 134) dX11_shift_132 rfl ?_
  refine AW.copyL (pc' := 137) dX11_shift_134 mlX11_330 ly_51 ly_51 (by first | assumption | omega | (constructor <;> omega) | (simp only [Int.toNat_natCast]; omega) | exact b2_in _) (by first | assumption | omega | (constructor <;> omega) | (simp only [Int.toNat_natCast]; omega) | exact b2_in _) (by first | assumption | omega | (constructor <;> omega) | (simp only [Int.toNat_natCast]; omega) | exact b2_in _) (by first | assumption | omega | (constructor <;> omega) | (simp only [Int.toNat_natCast]; omega) | exact b2_in _) (by first | assumption | omega | (constructor <;> omega) | (simp only [Int.toNat_natCast]; omega) | exact b2_in _) (by decide) (by decide) ?_
  refine AW.iload (pc' := 139) dX11_shift_137 rfl ?_
  refine AW.iret dX11_shift_139 ?_ ?_
  · rfl
  · rfl
set_option maxRecDepth 100000 in
set_option maxHeartbeats 4000000 in
theorem tl_X11_shift01 {K : KT}  {dep : Nat} {h : Hp} {b d e x6 x7 : Int} (q0 : 0 ≤ b ∧ 0 ≤ d ∧ 0 ≤ e) (q1 : b + e ≤ 60) (q2 : d + e ≤ 60) (hd : 1 ≤ dep) :  AW K (XM K (some (vI e)) (hcpy h 51 52 b.toNat d.toNat e.toNat)) RX11 cX11_shift 8 (some .int) dep 111 [some (vR 0), some (vI (0)), some (vI (b)), some (vI (1)), some (vI (d)), some (vI (e)), some (vI (x6)), some (vI (x7))] [] h := by
  refine AW.aload_n (pc' := 112) dX11_shift_111 rfl ?_
  refine AW.getR (pc' := 115) dX11_shift_112 ly_0 fX11_81 rfl ?_
  refine AW.getR (pc' := 118) dX11_shift_115 ly_46 fX11_128 rfl ?_
  refine AW.iload_n (pc' := 119) dX11_shift_118 rfl ?_
  refine AW.aaldL (t := 51) (pc' := 120) dX11_shift_119 ly_50 (by decide) (by decide) (by decide) rfl ?_
  refine AW.iload_n (pc' := 121) dX11_shift_120 rfl ?_
  refine AW.aload_n (pc' := 122) dX11_shift_121 rfl ?_
  refine AW.getR (pc' := 125) dX11_shift_122 ly_0 fX11_81 rfl ?_
  refine AW.getR (pc' := 128) dX11_shift_125 ly_46 fX11_128 rfl ?_
  refine AW.iload_n (pc' := 129) dX11_shift_128 rfl ?_
  refine AW.aaldL (t := 52) (pc' := 130) dX11_shift_129 ly_50 (by decide) (by decide) (by decide) rfl ?_
  refine AW.iload (pc' := 132) dX11_shift_130 rfl ?_
  refine AW.iload (pc' := 134) dX11_shift_132 rfl ?_
  refine AW.copyL (pc' := 137) dX11_shift_134 mlX11_330 ly_51 ly_52 (by first | assumption | omega | (constructor <;> omega) | (simp only [Int.toNat_natCast]; omega) | exact b2_in _) (by first | assumption | omega | (constructor <;> omega) | (simp only [Int.toNat_natCast]; omega) | exact b2_in _) (by first | assumption | omega | (constructor <;> omega) | (simp only [Int.toNat_natCast]; omega) | exact b2_in _) (by first | assumption | omega | (constructor <;> omega) | (simp only [Int.toNat_natCast]; omega) | exact b2_in _) (by first | assumption | omega | (constructor <;> omega) | (simp only [Int.toNat_natCast]; omega) | exact b2_in _) (by decide) (by decide) ?_
  refine AW.iload (pc' := 139) dX11_shift_137 rfl ?_
  refine AW.iret dX11_shift_139 ?_ ?_
  · rfl
  · rfl
set_option maxRecDepth 100000 in
set_option maxHeartbeats 4000000 in
theorem tl_X11_shift02 {K : KT}  {dep : Nat} {h : Hp} {b d e x6 x7 : Int} (q0 : 0 ≤ b ∧ 0 ≤ d ∧ 0 ≤ e) (q1 : b + e ≤ 60) (q2 : d + e ≤ 60) (hd : 1 ≤ dep) :  AW K (XM K (some (vI e)) (hcpy h 51 53 b.toNat d.toNat e.toNat)) RX11 cX11_shift 8 (some .int) dep 111 [some (vR 0), some (vI (0)), some (vI (b)), some (vI (2)), some (vI (d)), some (vI (e)), some (vI (x6)), some (vI (x7))] [] h := by
  refine AW.aload_n (pc' := 112) dX11_shift_111 rfl ?_
  refine AW.getR (pc' := 115) dX11_shift_112 ly_0 fX11_81 rfl ?_
  refine AW.getR (pc' := 118) dX11_shift_115 ly_46 fX11_128 rfl ?_
  refine AW.iload_n (pc' := 119) dX11_shift_118 rfl ?_
  refine AW.aaldL (t := 51) (pc' := 120) dX11_shift_119 ly_50 (by decide) (by decide) (by decide) rfl ?_
  refine AW.iload_n (pc' := 121) dX11_shift_120 rfl ?_
  refine AW.aload_n (pc' := 122) dX11_shift_121 rfl ?_
  refine AW.getR (pc' := 125) dX11_shift_122 ly_0 fX11_81 rfl ?_
  refine AW.getR (pc' := 128) dX11_shift_125 ly_46 fX11_128 rfl ?_
  refine AW.iload_n (pc' := 129) dX11_shift_128 rfl ?_
  refine AW.aaldL (t := 53) (pc' := 130) dX11_shift_129 ly_50 (by decide) (by decide) (by decide) rfl ?_
  refine AW.iload (pc' := 132) dX11_shift_130 rfl ?_
  refine AW.iload (pc' := 134) dX11_shift_132 rfl ?_
  refine AW.copyL (pc' := 137) dX11_shift_134 mlX11_330 ly_51 ly_53 (by first | assumption | omega | (constructor <;> omega) | (simp only [Int.toNat_natCast]; omega) | exact b2_in _) (by first | assumption | omega | (constructor <;> omega) | (simp only [Int.toNat_natCast]; omega) | exact b2_in _) (by first | assumption | omega | (constructor <;> omega) | (simp only [Int.toNat_natCast]; omega) | exact b2_in _) (by first | assumption | omega | (constructor <;> omega) | (simp only [Int.toNat_natCast]; omega) | exact b2_in _) (by first | assumption | omega | (constructor <;> omega) | (simp only [Int.toNat_natCast]; omega) | exact b2_in _) (by decide) (by decide) ?_
  refine AW.iload (pc' := 139) dX11_shift_137 rfl ?_
  refine AW.iret dX11_shift_139 ?_ ?_
  · rfl
  · rfl
set_option maxRecDepth 100000 in
set_option maxHeartbeats 4000000 in
theorem tl_X11_shift03 {K : KT}  {dep : Nat} {h : Hp} {b d e x6 x7 : Int} (q0 : 0 ≤ b ∧ 0 ≤ d ∧ 0 ≤ e) (q1 : b + e ≤ 60) (q2 : d + e ≤ 60) (hd : 1 ≤ dep) :  AW K (XM K (some (vI e)) (hcpy h 51 54 b.toNat d.toNat e.toNat)) RX11 cX11_shift 8 (some .int) dep 111 [some (vR 0), some (vI (0)), some (vI (b)), some (vI (3)), some (vI (d)), some (vI (e)), some (vI (x6)), some (vI (x7))] [] h := by
  refine AW.aload_n (pc' := 112) dX11_shift_111 rfl ?_
  refine AW.getR (pc' := 115) dX11_shift_112 ly_0 fX11_81 rfl ?_
  refine AW.getR (pc' := 118) dX11_shift_115 ly_46 fX11_128 rfl ?_
  refine AW.iload_n (pc' := 119) dX11_shift_118 rfl ?_
  refine AW.aaldL (t := 51) (pc' := 120) dX11_shift_119 ly_50 (by decide) (by decide) (by decide) rfl ?_
  refine AW.iload_n (pc' := 121) dX11_shift_120 rfl ?_
  refine AW.aload_n (pc' := 122) dX11_shift_121 rfl ?_
  refine AW.getR (pc' := 125) dX11_shift_122 ly_0 fX11_81 rfl ?_
  refine AW.getR (pc' := 128) dX11_shift_125 ly_46 fX11_128 rfl ?_
  refine AW.iload_n (pc' := 129) dX11_shift_128 rfl ?_
  refine AW.aaldL (t := 54) (pc' := 130) dX11_shift_129 ly_50 (by decide) (by decide) (by decide) rfl ?_
  refine AW.iload (pc' := 132) dX11_shift_130 rfl ?_
  refine AW.iload (pc' := 134) dX11_shift_132 rfl ?_
  refine AW.copyL (pc' := 137) dX11_shift_134 mlX11_330 ly_51 ly_54 (by first | assumption | omega | (constructor <;> omega) | (simp only [Int.toNat_natCast]; omega) | exact b2_in _) (by first | assumption | omega | (constructor <;> omega) | (simp only [Int.toNat_natCast]; omega) | exact b2_in _) (by first | assumption | omega | (constructor <;> omega) | (simp only [Int.toNat_natCast]; omega) | exact b2_in _) (by first | assumption | omega | (constructor <;> omega) | (simp only [Int.toNat_natCast]; omega) | exact b2_in _) (by first | assumption | omega | (constructor <;> omega) | (simp only [Int.toNat_natCast]; omega) | exact b2_in _) (by decide) (by decide) ?_
  refine AW.iload (pc' := 139) dX11_shift_137 rfl ?_
  refine AW.iret dX11_shift_139 ?_ ?_
  · rfl
  · rfl
set_option maxRecDepth 100000 in
set_option maxHeartbeats 4000000 in
theorem tl_X11_shift04 {K : KT}  {dep : Nat} {h : Hp} {b d e x6 x7 : Int} (q0 : 0 ≤ b ∧ 0 ≤ d ∧ 0 ≤ e) (q1 : b + e ≤ 60) (q2 : d + e ≤ 60) (hd : 1 ≤ dep) :  AW K (XM K (some (vI e)) (hcpy h 51 55 b.toNat d.toNat e.toNat)) RX11 cX11_shift 8 (some .int) dep 111 [some (vR 0), some (vI (0)), some (vI (b)), some (vI (4)), some (vI (d)), some (vI (e)), some (vI (x6)), some (vI (x7))] [] h := by
  refine AW.aload_n (pc' := 112) dX11_shift_111 rfl ?_
  refine AW.getR (pc' := 115) dX11_shift_112 ly_0 fX11_81 rfl ?_
  refine AW.getR (pc' := 118) dX11_shift_115 ly_46 fX11_128 rfl ?_
  refine AW.iload_n (pc' := 119) dX11_shift_118 rfl ?_
  refine AW.aaldL (t := 51) (pc' := 120) dX11_shift_119 ly_50 (by decide) (by decide) (by decide) rfl ?_
  refine AW.iload_n (pc' := 121) dX11_shift_120 rfl ?_
  refine AW.aload_n (pc' := 122) dX11_shift_121 rfl ?_
  refine AW.getR (pc' := 125) dX11_shift_122 ly_0 fX11_81 rfl ?_
  refine AW.getR (pc' := 128) dX11_shift_125 ly_46 fX11_128 rfl ?_
  refine AW.iload_n (pc' := 129) dX11_shift_128 rfl ?_
  refine AW.aaldL (t := 55) (pc' := 130) dX11_shift_129 ly_50 (by decide) (by decide) (by decide) rfl ?_
  refine AW.iload (pc' := 132) dX11_shift_130 rfl ?_
  refine AW.iload (pc' := 134) dX11_shift_132 rfl ?_
  refine AW.copyL (pc' := 137) dX11_shift_134 mlX11_330 ly_51 ly_55 (by first | assumption | omega | (constructor <;> omega) | (simp only [Int.toNat_natCast]; omega) | exact b2_in _) (by first | assumption | omega | (constructor <;> omega) | (simp only [Int.toNat_natCast]; omega) | exact b2_in _) (by first | assumption | omega | (constructor <;> omega) | (simp only [Int.toNat_natCast]; omega) | exact b2_in _) (by first | assumption | omega | (constructor <;> omega) | (simp only [Int.toNat_natCast]; omega) | exact b2_in _) (by first | assumption | omega | (constructor <;> omega) | (simp only [Int.toNat_natCast]; omega) | exact b2_in _) (by decide) (by decide) ?_
  refine AW.iload (pc' := 139) dX11_shift_137 rfl ?_
  refine AW.iret dX11_shift_139 ?_ ?_
  · rfl
  · rfl
set_option maxRecDepth 100000 in
set_option maxHeartbeats 4000000 in
theorem tl_X11_shift05 {K : KT}  {dep : Nat} {h : Hp} {b d e x6 x7 : Int} (q0 : 0 ≤ b ∧ 0 ≤ d ∧ 0 ≤ e) (q1 : b + e ≤ 60) (q2 : d + e ≤ 60) (hd : 1 ≤ dep) :  AW K (XM K (some (vI e)) (hcpy h 51 56 b.toNat d.toNat e.toNat)) RX11 cX11_shift 8 (some .int) dep 111 [some (vR 0), some (vI (0)), some (vI (b)), some (vI (5)), some (vI (d)), some (vI (e)), some (vI (x6)), some (vI (x7))] [] h := by
  refine AW.aload_n (pc' := 112) dX11_shift_111 rfl ?_
  refine AW.getR (pc' := 115) dX11_shift_112 ly_0 fX11_81 rfl ?_
  refine AW.getR (pc' := 118) dX11_shift_115 ly_46 fX11_128 rfl ?_
  refine AW.iload_n (pc' := 119) dX11_shift_118 rfl ?_
  refine AW.aaldL (t := 51) (pc' := 120) dX11_shift_119 ly_50 (by decide) (by decide) (by decide) rfl ?_
  refine AW.iload_n (pc' := 121) dX11_shift_120 rfl ?_
  refine AW.aload_n (pc' := 122) dX11_shift_121 rfl ?_
  refine AW.getR (pc' := 125) dX11_shift_122 ly_0 fX11_81 rfl ?_
  refine AW.getR (pc' := 128) dX11_shift_125 ly_46 fX11_128 rfl ?_
  refine AW.iload_n (pc' := 129) dX11_shift_128 rfl ?_
  refine AW.aaldL (t := 56) (pc' := 130) dX11_shift_129 ly_50 (by decide) (by decide) (by decide) rfl ?_
  refine AW.iload (pc' := 132) dX11_shift_130 rfl ?_
  refine AW.iload (pc' := 134) dX11_shift_132 rfl ?_
  refine AW.copyL (pc' := 137) dX11_shift_134 mlX11_330 ly_51 ly_56 (by first | assumption | omega | (constructor <;> omega) | (simp only [Int.toNat_natCast]; omega) | exact b2_in _) (by first | assumption | omega | (constructor <;> omega) | (simp only [Int.toNat_natCast]; omega) | exact b2_in _) (by first | assumption | omega | (constructor <;> omega) | (simp only [Int.toNat_natCast]; omega) | exact b2_in _) (by first | assumption | omega | (constructor <;> omega) | (simp only [Int.toNat_natCast]; omega) | exact b2_in _) (by first | assumption | omega | (constructor <;> omega) | (simp only [Int.toNat_natCast]; omega) | exact b2_in _) (by decide) (by decide) ?_
  refine AW.iload (pc' := 139) dX11_shift_137 rfl ?_
  refine AW.iret dX11_shift_139 ?_ ?_
  · rfl
  · rfl
set_option maxRecDepth 100000 in
set_option maxHeartbeats 4000000 in
theorem tl_X11_shift10 {K : KT}  {dep : Nat} {h : Hp} {b d e x6 x7 : Int} (q0 : 0 ≤ b ∧ 0 ≤ d ∧ 0 ≤ e) (q1 : b + e ≤ 60) (q2 : d + e ≤ 60) (hd : 1 ≤ dep) :  AW K (XM K (some (vI e)) (hcpy h 52 51 b.toNat d.toNat e.toNat)) RX11 cX11_shift 8 (some .int) dep 111 [some (vR 0), some (vI (1)), some (vI (b)), some (vI (0)), some (vI (d)), some (vI (e)), some (vI (x6)), some (vI (x7))] [] h := by
  refine AW.aload_n (pc' := 112) dX11_shift_111 rfl ?_
  refine AW.getR (pc' := 115) dX11_shift_112 ly_0 fX11_81 rfl ?_
  refine AW.getR (pc' := 118) dX11_shift_115 ly_46 fX11_128 rfl ?_
  refine AW.iload_n (pc' := 119) dX11_shift_118 rfl ?_
  refine AW.aaldL (t := 52) (pc' := 120) dX11_shift_119 ly_50 (by decide) (by decide) (by decide) rfl ?_
  refine AW.iload_n (pc' := 121) dX11_shift_120 rfl ?_
  refine AW.aload_n (pc' := 122) dX11_shift_121 rfl ?_
  refine AW.getR (pc' := 125) dX11_shift_122 ly_0 fX11_81 rfl ?_
  refine AW.getR (pc' := 128) dX11_shift_125 ly_46 fX11_128 rfl ?_
  refine AW.iload_n (pc' := 129) dX11_shift_128 rfl ?_
  refine AW.aaldL (t := 51) (pc' := 130) dX11_shift_129 ly_50 (by decide) (by decide) (by decide) rfl ?_
  refine AW.iload (pc' := 132) dX11_shift_130 rfl ?_
  refine AW.iload (pc' := 134) dX11_shift_132 rfl ?_
  refine AW.copyL (pc' := 137) dX11_shift_134 mlX11_330 ly_52 ly_51 (by first | assumption | omega | (constructor <;> omega) | (simp only [Int.toNat_natCast]; omega) | exact b2_in _) (by first | assumption | omega | (constructor <;> omega) | (simp only [Int.toNat_natCast]; omega) | exact b2_in _) (by first | assumption | omega | (constructor <;> omega) | (simp only [Int.toNat_natCast]; omega) | exact b2_in _) (by first | assumption | omega | (constructor <;> omega) | (simp only [Int.toNat_natCast]; omega) | exact b2_in _) (by first | assumption | omega | (constructor <;> omega) | (simp only [Int.toNat_natCast]; omega) | exact b2_in _) (by decide) (by decide) ?_
  refine AW.iload (pc' := 139) dX11_shift_137 rfl ?_
  refine AW.iret dX11_shift_139 ?_ ?_
  · rfl
  · rfl
set_option maxRecDepth 100000 in
set_option maxHeartbeats 4000000 in
theorem tl_X11_shift11 {K : KT}  {dep : Nat} {h : Hp} {b d e x6 x7 : Int} (q0 : 0 ≤ b ∧ 0 ≤ d ∧ 0 ≤ e) (q1 : b + e ≤ 60) (q2 : d + e ≤ 60) (hd : 1 ≤ dep) :  AW K (XM K (some (vI e)) (hcpy h 52 52 b.toNat d.toNat e.toNat)) RX11 cX11_shift 8 (some .int) dep 111 [some (vR 0), some (vI (1)), some (vI (b)), some (vI (1)), some (vI (d)), some (vI (e)), some (vI (x6)), some (vI (x7))] [] h := by
  refine AW.aload_n (pc' := 112) dX11_shift_111 rfl ?_
  refine AW.getR (pc' := 115) dX11_shift_112 ly_0 fX11_81 rfl ?_
  refine AW.getR (pc' := 118) dX11_shift_115 ly_46 fX11_128 rfl ?_
  refine AW.iload_n (pc' := 119) dX11_shift_118 rfl ?_
  refine AW.aaldL (t := 52) (pc' := 120) dX11_shift_119 ly_50 (by decide) (by decide) (by decide) rfl ?_
  refine AW.iload_n (pc' := 121) dX11_shift_120 rfl ?_
  refine AW.aload_n (pc' := 122) dX11_shift_121 rfl ?_
  refine AW.getR (pc' := 125) dX11_shift_122 ly_0 fX11_81 rfl ?_
  refine AW.getR (pc' := 128) dX11_shift_125 ly_46 fX11_128 rfl ?_
  refine AW.iload_n (pc' := 129) dX11_shift_128 rfl ?_
  refine AW.aaldL (t := 52) (pc' := 130) dX11_shift_129 ly_50 (by decide) (by decide) (by decide) rfl ?_
  refine AW.iload (pc' := 132) dX11_shift_130 rfl ?_
  refine AW.iload (pc' := 134) dX11_shift_132 rfl ?_
  refine AW.copyL (pc' := 137) dX11_shift_134 mlX11_330 ly_52 ly_52 (by first | assumption | omega | (constructor <;> omega) | (simp only [Int.toNat_natCast]; omega) | exact b2_in _) (by first | assumption | omega | (constructor <;> omega) | (simp only [Int.toNat_natCast]; omega) | exact b2_in _) (by first | assumption | omega | (constructor <;> omega) | (simp only [Int.toNat_natCast]; omega) | exact b2_in _) (by first | assumption | omega | (constructor <;> omega) | (simp only [Int.toNat_natCast]; omega) | exact b2_in _) (by first | assumption | omega | (constructor <;> omega) | (simp only [Int.toNat_natCast]; omega) | exact b2_in _) (by decide) (by decide) ?_
  refine AW.iload (pc' := 139) dX11_shift_137 rfl ?_
  refine AW.iret dX11_shift_139 ?_ ?_
  · rfl
  · rfl
set_option maxRecDepth 100000 in
set_option maxHeartbeats 4000000 in
theorem tl_X11_shift12 {K : KT}  {dep : Nat} {h : Hp} {b d e x6 x7 : Int} (q0 : 0 ≤ b ∧ 0 ≤ d ∧ 0 ≤ e) (q1 : b + e ≤ 60) (q2 : d + e ≤ 60) (hd : 1 ≤ dep) :  AW K (XM K (some (vI e)) (hcpy h 52 53 b.toNat d.toNat e.toNat)) RX11 cX11_shift 8 (some .int) dep 111 [some (vR 0), some (vI (1)), some (vI (b)), some (vI (2)), some (vI (d)), some (vI (e)), some (vI (x6)), some (vI (x7))] [] h := by
  refine AW.aload_n (pc' := 112) dX11_shift_111 rfl ?_
  refine AW.getR (pc' := 115) dX11_shift_112 ly_0 fX11_81 rfl ?_
  refine AW.getR (pc' := 118) dX11_shift_115 ly_46 fX11_128 rfl ?_
  refine AW.iload_n (pc' := 119) dX11_shift_118 rfl ?_
  refine AW.aaldL (t := 52) (pc' := 120) dX11_shift_119 ly_50 (by decide) (by decide) (by decide) rfl ?_
  refine AW.iload_n (pc' := 121) dX11_shift_120 rfl ?_
  refine AW.aload_n (pc' := 122) dX11_shift_121 rfl ?_
  refine AW.getR (pc' := 125) dX11_shift_122 ly_0 fX11_81 rfl ?_
  refine AW.getR (pc' := 128) dX11_shift_125 ly_46 fX11_128 rfl ?_
  refine AW.iload_n (pc' := 129) dX11_shift_128 rfl ?_
  refine AW.aaldL (t := 53) (pc' := 130) dX11_shift_129 ly_50 (by decide) (by decide) (by decide) rfl ?_
  refine AW.iload (pc' := 132) dX11_shift_130 rfl ?_
  refine AW.iload (pc' := 134) dX11_shift_132 rfl ?_
  refine AW.copyL (pc' := 137) dX11_shift_134 mlX11_330 ly_52 ly_53 (by first | assumption | omega | (constructor <;> omega) | (simp only [Int.toNat_natCast]; omega) | exact b2_in _) (by first | assumption | omega | (constructor <;> omega) | (simp only [Int.toNat_natCast]; omega) | exact b2_in _) (by first | assumption | omega | (constructor <;> omega) | (simp only [Int.toNat_natCast]; omega) | exact b2_in _) (by first | assumption | omega | (constructor <;> omega) | (simp only [Int.toNat_natCast]; omega) | exact b2_in _) (by first | assumption | omega | (constructor <;> omega) | (simp only [Int.toNat_natCast]; omega) | exact b2_in _) (by decide) (by decide) ?_
  refine AW.iload (pc' := 139) dX11_shift_137 rfl ?_
  refine AW.iret dX11_shift_139 ?_ ?_
  · rfl
  · rfl
set_option maxRecDepth 100000 in
set_option maxHeartbeats 4000000 in
theorem tl_X11_shift13 {K : KT}  {dep : Nat} {h : Hp} {b d e x6 x7 : Int} (q0 : 0 ≤ b ∧ 0 ≤ d ∧ 0 ≤ e) (q1 : b + e ≤ 60) (q2 : d + e ≤ 60) (hd : 1 ≤ dep) :  AW K (XM K (some (vI e)) (hcpy h 52 54 b.toNat d.toNat e.toNat)) RX11 cX11_shift 8 (some .int) dep 111 [some (vR 0), some (vI (1)), some (vI (b)), some (vI (3)), some (vI (d)), some (vI (e)), some (vI (x6)), some (vI (x7))] [] h := by
  refine AW.aload_n (pc' := 112) dX11_shift_111 rfl ?_
  refine AW.getR (pc' := 115) dX11_shift_112 ly_0 fX11_81 rfl ?_
  refine AW.getR (pc' := 118) dX11_shift_115 ly_46 fX11_128 rfl ?_
  refine AW.iload_n (pc' := 119) dX11_shift_118 rfl ?_
  refine AW.aaldL (t := 52) (pc' := 120) dX11_shift_119 ly_50 (by decide) (by decide) (by decide) rfl ?_
  refine AW.iload_n (pc' := 121) dX11_shift_120 rfl ?_
  refine AW.aload_n (pc' := 122) dX11_shift_121 rfl ?_
  refine AW.getR (pc' := 125) dX11_shift_122 ly_0 fX11_81 rfl ?_
  refine AW.getR (pc' := 128) dX11_shift_125 ly_46 fX11_128 rfl ?_
  refine AW.iload_n (pc' := 129) dX11_shift_128 rfl ?_
  refine AW.aaldL (t := 54) (pc' := 130) dX11_shift_129 ly_50 (by decide) (by decide) (by decide) rfl ?_
  refine AW.iload (pc' := 132) dX11_shift_130 rfl ?_
  refine AW.iload (pc' := 134) dX11_shift_132 rfl ?_
  refine AW.copyL (pc' := 137) dX11_shift_134 mlX11_330 ly_52 ly_54 (by first | assumption | omega | (constructor <;> omega) | (simp only [Int.toNat_natCast]; omega) | exact b2_in _) (by first | assumption | omega | (constructor <;> omega) | (simp only [Int.toNat_natCast]; omega) | exact b2_in _) (by first | assumption | omega | (constructor <;> omega) | (simp only [Int.toNat_natCast]; omega) | exact b2_in _) (by first | assumption | omega | (constructor <;> omega) | (simp only [Int.toNat_natCast]; omega) | exact b2_in _) (by first | assumption | omega | (constructor <;> omega) | (simp only [Int.toNat_natCast]; omega) | exact b2_in _) (by decide) (by decide) ?_
  refine AW.iload (pc' := 139) dX11_shift_137 rfl ?_
  refine AW.iret dX11_shift_139 ?_ ?_
  · rfl
  · rfl
set_option maxRecDepth 100000 in
set_option maxHeartbeats 4000000 in
theorem tl_X11_shift14 {K : KT}  {dep : Nat} {h : Hp} {b d e x6 x7 : Int} (q0 : 0 ≤ b ∧ 0 ≤ d ∧ 0 ≤ e) (q1 : b + e ≤ 60) (q2 : d + e ≤ 60) (hd : 1 ≤ dep) :  AW K (XM K (some (vI e)) (hcpy h 52 55 b.toNat d.toNat e.toNat)) RX11 cX11_shift 8 (some .int) dep 111 [some (vR 0), some (vI (1)), some (vI (b)), some (vI (4)), some (vI (d)), some (vI (e)), some (vI (x6)), some (vI (x7))] [] h := by
  refine AW.aload_n (pc' := 112) dX11_shift_111 rfl ?_
  refine AW.getR (pc' := 115) dX11_shift_112 ly_0 fX11_81 rfl ?_
  refine AW.getR (pc' := 118) dX11_shift_115 ly_46 fX11_128 rfl ?_
  refine AW.iload_n (pc' := 119) dX11_shift_118 rfl ?_
  refine AW.aaldL (t := 52) (pc' := 120) dX11_shift_119 ly_50 (by decide) (by decide) (by decide) rfl ?_
  refine AW.iload_n (pc' := 121) dX11_shift_120 rfl ?_
  refine AW.aload_n (pc' := 122) dX11_shift_121 rfl ?_
  refine AW.getR (pc' := 125) dX11_shift_122 ly_0 fX11_81 rfl ?_
  refine AW.getR (pc' := 128) dX11_shift_125 ly_46 fX11_128 rfl ?_
  refine AW.iload_n (pc' := 129) dX11_shift_128 rfl ?_
  refine AW.aaldL (t := 55) (pc' := 130) dX11_shift_129 ly_50 (by decide) (by decide) (by decide) rfl ?_
  refine AW.iload (pc' := 132) dX11_shift_130 rfl ?_
  refine AW.iload (pc' := 134) dX11_shift_132 rfl ?_
  refine AW.copyL (pc' := 137) dX11_shift_134 mlX11_330 ly_52 ly_55 (by first | assumption | omega | (constructor <;> omega) | (simp only [Int.toNat_natCast]; omega) | exact b2_in _) (by first | assumption | omega | (constructor <;> omega) | (simp only [Int.toNat_natCast]; omega) | exact b2_in _) (by first | assumption | omega | (constructor <;> omega) | (simp only [Int.toNat_natCast]; omega) | exact b2_in _) (by first | assumption | omega | (constructor <;> omega) | (simp only [Int.toNat_natCast]; omega) | exact b2_in _) (by first | assumption | omega | (constructor <;> omega) | (simp only [Int.toNat_natCast]; omega) | exact b2_in _) (by decide) (by decide) ?_
  refine AW.iload (pc' := 139) dX11_shift_137 rfl ?_
  refine AW.iret dX11_shift_139 ?_ ?_
  · rfl
  · rfl
set_option maxRecDepth 100000 in
set_option maxHeartbeats 4000000 in
theorem tl_X11_shift15 {K : KT}  {dep : Nat} {h : Hp} {b d e x6 x7 : Int} (q0 : 0 ≤ b ∧ 0 ≤ d ∧ 0 ≤ e) (q1 : b + e ≤ 60) (q2 : d + e ≤ 60) (hd : 1 ≤ dep) :  AW K (XM K (some (vI e)) (hcpy h 52 56 b.toNat d.toNat e.toNat)) RX11 cX11_shift 8 (some .int) dep 111 [some (vR 0), some (vI (1)), some (vI (b)), some (vI (5)), some (vI (d)), some (vI (e)), some (vI (x6)), some (vI (x7))] [] h := by
  refine AW.aload_n (pc' := 112) dX11_shift_111 rfl ?_
  refine AW.getR (pc' := 115) dX11_shift_112 ly_0 fX11_81 rfl ?_
  refine AW.getR (pc' := 118) dX11_shift_115 ly_46 fX11_128 rfl ?_
  refine AW.iload_n (pc' := 119) dX11_shift_118 rfl ?_
  refine AW.aaldL (t := 52) (pc' := 120) dX11_shift_119 ly_50 (by decide) (by decide) (by decide) rfl ?_
  refine AW.iload_n (pc' := 121) dX11_shift_120 rfl ?_
  refine AW.aload_n (pc' := 122) dX11_shift_121 rfl ?_
  refine AW.getR (pc' := 125) dX11_shift_122 ly_0 fX11_81 rfl ?_
  refine AW.getR (pc' := 128) dX11_shift_125 ly_46 fX11_128 rfl ?_
  refine AW.iload_n (pc' := 129) dX11_shift_128 rfl ?_
  refine AW.aaldL (t := 56) (pc' := 130) dX11_shift_129 ly_50 (by decide) (by decide) (by decide) rfl ?_
  refine AW.iload (pc' := 132) dX11_shift_130 rfl ?_
  refine AW.iload (pc' := 134) dX11_shift_132 rfl ?_
  refine AW.copyL (pc' := 137) dX11_shift_134 mlX11_330 ly_52 ly_56 (by first | assumption | omega | (constructor <;> omega) | (simp only [Int.toNat_natCast]; omega) | exact b2_in _) (by first | assumption | omega | (constructor <;> omega) | (simp only [Int.toNat_natCast]; omega) | exact b2_in _) (by first | assumption | omega | (constructor <;> omega) | (simp only [Int.toNat_natCast]; omega) | exact b2_in _) (by first | assumption | omega | (constructor <;> omega) | (simp only [Int.toNat_natCast]; omega) | exact b2_in _) (by first | assumption | omega | (constructor <;> omega) | (simp only [Int.toNat_natCast]; omega) | exact b2_in _) (by decide) (by decide) ?_
  refine AW.iload (pc' := 139) dX11_shift_137 rfl ?_
  refine AW.iret dX11_shift_139 ?_ ?_
  · rfl
  · rfl
set_option maxRecDepth 100000 in
set_option maxHeartbeats 4000000 in
theorem tl_X11_shift20 {K : KT}  {dep : Nat} {h : Hp} {b d e x6 x7 : Int} (q0 : 0 ≤ b ∧ 0 ≤ d ∧ 0 ≤ e) (q1 : b + e ≤ 60) (q2 : d + e ≤ 60) (hd : 1 ≤ dep) :  AW K (XM K (some (vI e)) (hcpy h 53 51 b.toNat d.toNat e.toNat)) RX11 cX11_shift 8 (some .int) dep 111 [some (vR 0), some (vI (2)), some (vI (b)), some (vI (0)), some (vI (d)), some (vI (e)), some (vI (x6)), some (vI (x7))] [] h := by
  refine AW.aload_n (pc' := 112) dX11_shift_111 rfl ?_
  refine AW.getR (pc' := 115) dX11_shift_112 ly_0 fX11_81 rfl ?_
  refine AW.getR (pc' := 118) dX11_shift_115 ly_46 fX11_128 rfl ?_
  refine AW.iload_n (pc' := 119) dX11_shift_118 rfl ?_
  refine AW.aaldL (t := 53) (pc' := 120) dX11_shift_119 ly_50 (by decide) (by decide) (by decide) rfl ?_
  refine AW.iload_n (pc' := 121) dX11_shift_120 rfl ?_
  refine AW.aload_n (pc' := 122) dX11_shift_121 rfl ?_
  refine AW.getR (pc' := 125) dX11_shift_122 ly_0 fX11_81 rfl ?_
  refine AW.getR (pc' := 128) dX11_shift_125 ly_46 fX11_128 rfl ?_
  refine AW.iload_n (pc' := 129) dX11_shift_128 rfl ?_
  refine AW.aaldL (t := 51) (pc' := 130) dX11_shift_129 ly_50 (by decide) (by decide) (by decide) rfl ?_
  refine AW.iload (pc' := 132) dX11_shift_130 rfl ?_
  refine AW.iload (pc' := 134) dX11_shift_132 rfl ?_
  refine AW.copyL (pc' := 137) dX11_shift_134 mlX11_330 ly_53 ly_51 (by first | assumption | omega | (constructor <;> omega) | (simp only [Int.toNat_natCast]; omega) | exact b2_in _) (by first | assumption | omega | (constructor <;> omega) | (simp only [Int.toNat_natCast]; omega) | exact b2_in _) (by first | assumption | omega | (constructor <;> omega) | (simp only [Int.toNat_natCast]; omega) | exact b2_in _) (by first | assumption | omega | (constructor <;> omega) | (simp only [Int.toNat_natCast]; omega) | exact b2_in _) (by first | assumption | omega | (constructor <;> omega) | (simp only [Int.toNat_natCast]; omega) | exact b2_in _) (by decide) (by decide) ?_
  refine AW.iload (pc' := 139) dX11_shift_137 rfl ?_
  refine AW.iret dX11_shift_139 ?_ ?_
  · rfl
  · rfl
set_option maxRecDepth 100000 in
set_option maxHeartbeats 4000000 in
theorem tl_X11_shift21 {K : KT}  {dep : Nat} {h : Hp} {b d e x6 x7 : Int} (q0 : 0 ≤ b ∧ 0 ≤ d ∧ 0 ≤ e) (q1 : b + e ≤ 60) (q2 : d + e ≤ 60) (hd : 1 ≤ dep) :  AW K (XM K (some (vI e)) (hcpy h 53 52 b.toNat d.toNat e.toNat)) RX11 cX11_shift 8 (some .int) dep 111 [some (vR 0), some (vI (2)), some (vI (b)), some (vI (1)), some (vI (d)), some (vI (e)), some (vI (x6)), some (vI (x7))] [] h := by
  refine AW.aload_n (pc' := 112) dX11_shift_111 rfl ?_
  refine AW.getR (pc' := 115) dX11_shift_112 ly_0 fX11_81 rfl ?_
  refine AW.getR (pc' := 118) dX11_shift_115 ly_46 fX11_128 rfl ?_
  refine AW.iload_n (pc' := 119) dX11_shift_118 rfl ?_
  refine AW.aaldL (t := 53) (pc' := 120) dX11_shift_119 ly_50 (by decide) (by decide) (by decide) rfl ?_
  refine AW.iload_n (pc' := 121) dX11_shift_120 rfl ?_
  refine AW.aload_n (pc' := 122) dX11_shift_121 rfl ?_
  refine AW.getR (pc' := 125) dX11_shift_122 ly_0 fX11_81 rfl ?_
  refine AW.getR (pc' := 128) dX11_shift_125 ly_46 fX11_128 rfl ?_
  refine AW.iload_n (pc' := 129) dX11_shift_128 rfl ?_
  refine AW.aaldL (t := 52) (pc' := 130) dX11_shift_129 ly_50 (by decide) (by decide) (by decide) rfl ?_
  refine AW.iload (pc' := 132) dX11_shift_130 rfl ?_
  refine AW.iload (pc' := 134) dX11_shift_132 rfl ?_
  refine AW.copyL (pc' := 137) dX11_shift_134 mlX11_330 ly_53 ly_52 (by first | assumption | omega | (constructor <;> omega) | (simp only [Int.toNat_natCast]; omega) | exact b2_in _) (by first | assumption | omega | (constructor <;> omega) | (simp only [Int.toNat_natCast]; omega) | exact b2_in _) (by first | assumption | omega | (constructor <;> omega) | (simp only [Int.toNat_natCast]; omega) | exact b2_in _) (by first | assumption | omega | (constructor <;> omega) | (simp only [Int.toNat_natCast]; omega) | exact b2_in _) (by first | assumption | omega | (constructor <;> omega) | (simp only [Int.toNat_natCast]; omega) | exact b2_in _) (by decide) (by decide) ?_
  refine AW.iload (pc' := 139) dX11_shift_137 rfl ?_
  refine AW.iret dX11_shift_139 ?_ ?_
  · rfl
  · rfl
set_option maxRecDepth 100000 in
set_option maxHeartbeats 4000000 in
theorem tl_X11_shift22 {K : KT}  {dep : Nat} {h : Hp} {b d e x6 x7 : Int} (q0 : 0 ≤ b ∧ 0 ≤ d ∧ 0 ≤ e) (q1 : b + e ≤ 60) (q2 : d + e ≤ 60) (hd : 1 ≤ dep) :  AW K (XM K (some (vI e)) (hcpy h 53 53 b.toNat d.toNat e.toNat)) RX11 cX11_shift 8 (some .int) dep 111 [some (vR 0), some (vI (2)), some (vI (b)), some (vI (2)), some (vI (d)), some (vI (e)), some (vI (x6)), some (vI (x7))] [] h := by
  refine AW.aload_n (pc' := 112) dX11_shift_111 rfl ?_
  refine AW.getR (pc' := 115) dX11_shift_112 ly_0 fX11_81 rfl ?_
  refine AW.getR (pc' := 118) dX11_shift_115 ly_46 fX11_128 rfl ?_
  refine AW.iload_n (pc' := 119) dX11_shift_118 rfl ?_
  refine AW.aaldL (t := 53) (pc' := 120) dX11_shift_119 ly_50 (by decide) (by decide) (by decide) rfl ?_
  refine AW.iload_n (pc' := 121) dX11_shift_120 rfl ?_
  refine AW.aload_n (pc' := 122) dX11_shift_121 rfl ?_
  refine AW.getR (pc' := 125) dX11_shift_122 ly_0 fX11_81 rfl ?_
  refine AW.getR (pc' := 128) dX11_shift_125 ly_46 fX11_128 rfl ?_
  refine AW.iload_n (pc' := 129) dX11_shift_128 rfl ?_
  refine AW.aaldL (t := 53) (pc' := 130) dX11_shift_129 ly_50 (by decide) (by decide) (by decide) rfl ?_
  refine AW.iload (pc' := 132) dX11_shift_130 rfl ?_
  refine AW.iload (pc' := 134) dX11_shift_132 rfl ?_
  refine AW.copyL (pc' := 137) dX11_shift_134 mlX11_330 ly_53 ly_53 (by first | assumption | omega | (constructor <;> omega) | (simp only [Int.toNat_natCast]; omega) | exact b2_in _) (by first | assumption | omega | (constructor <;> omega) | (simp only [Int.toNat_natCast]; omega) | exact b2_in _) (by first | assumption | omega | (constructor <;> omega) | (simp only [Int.toNat_natCast]; omega) | exact b2_in _) (by first | assumption | omega | (constructor <;> omega) | (simp only [Int.toNat_natCast]; omega) | exact b2_in _) (by first | assumption | omega | (constructor <;> omega) | (simp only [Int.toNat_natCast]; omega) | exact b2_in _) (by decide) (by decide) ?_
  refine AW.iload (pc' := 139) dX11_shift_137 rfl ?_
  refine AW.iret dX11_shift_139 ?_ ?_
  · rfl
  · rfl
set_option maxRecDepth 100000 in
set_option maxHeartbeats 4000000 in
theorem tl_X11_shift23 {K : KT}  {dep : Nat} {h : Hp} {b d e x6 x7 : Int} (q0 : 0 ≤ b ∧ 0 ≤ d ∧ 0 ≤ e) (q1 : b + e ≤ 60) (q2 : d + e ≤ 60) (hd : 1 ≤ dep) :  AW K (XM K (some (vI e)) (hcpy h 53 54 b.toNat d.toNat e.toNat)) RX11 cX11_shift 8 (some .int) dep 111 [some (vR 0), some (vI (2)), some (vI (b)), some (vI (3)), some (vI (d)), some (vI (e)), some (vI (x6)), some (vI (x7))] [] h := by
  refine AW.aload_n (pc' := 112) dX11_shift_111 rfl ?_
  refine AW.getR (pc' := 115) dX11_shift_112 ly_0 fX11_81 rfl ?_
  refine AW.getR (pc' := 118) dX11_shift_115 ly_46 fX11_128 rfl ?_
  refine AW.iload_n (pc' := 119) dX11_shift_118 rfl ?_
  refine AW.aaldL (t := 53) (pc' := 120) dX11_shift_119 ly_50 (by decide) (by decide) (by decide) rfl ?_
  refine AW.iload_n (pc' := 121) dX11_shift_120 rfl ?_
  refine AW.aload_n (pc' := 122) dX11_shift_121 rfl ?_
  refine AW.getR (pc' := 125) dX11_shift_122 ly_0 fX11_81 rfl ?_
  refine AW.getR (pc' := 128) dX11_shift_125 ly_46 fX11_128 rfl ?_
  refine AW.iload_n (pc' := 129) dX11_shift_128 rfl ?_
  refine AW.aaldL (t := 54) (pc' := 130) dX11_shift_129 ly_50 (by decide) (by decide) (by decide) rfl ?_
  refine AW.iload (pc' := 132) dX11_shift_130 rfl ?_
  refine AW.iload (pc' := 134) dX11_shift_132 rfl ?_
  refine AW.copyL (pc' := 137) dX11_shift_134 mlX11_330 ly_53 ly_54 (by first | assumption | omega | (constructor <;> omega) | (simp only [Int.toNat_natCast]; omega) | exact b2_in _) (by first | assumption | omega | (constructor <;> omega) | (simp only [Int.toNat_natCast]; omega) | exact b2_in _) (by first | assumption | omega | (constructor <;> omega) | (simp only [Int.toNat_natCast]; omega) | exact b2_in _) (by first | assumption | omega | (constructor <;> omega) | (simp only [Int.toNat_natCast]; omega) | exact b2_in _) (by first | assumption | omega | (constructor <;> omega) | (simp only [Int.toNat_natCast]; omega) | exact b2_in _) (by decide) (by decide) ?_
  refine AW.iload (pc' := 139) dX11_shift_137 rfl ?_
  refine AW.iret dX11_shift_139 ?_ ?_
  · rfl
  · rfl
set_option maxRecDepth 100000 in
set_option maxHeartbeats 4000000 in
theorem tl_X11_shift24 {K : KT}  {dep : Nat} {h : Hp} {b d e x6 x7 : Int} (q0 : 0 ≤ b ∧ 0 ≤ d ∧ 0 ≤ e) (q1 : b + e ≤ 60) (q2 : d + e ≤ 60) (hd : 1 ≤ dep) :  AW K (XM K (some (vI e)) (hcpy h 53 55 b.toNat d.toNat e.toNat)) RX11 cX11_shift 8 (some .int) dep 111 [some (vR 0), some (vI (2)), some (vI (b)), some (vI (4)), some (vI (d)), some (vI (e)), some (vI (x6)), some (vI (x7))] [] h := by
  refine AW.aload_n (pc' := 112) dX11_shift_111 rfl ?_
  refine AW.getR (pc' := 115) dX11_shift_112 ly_0 fX11_81 rfl ?_
  refine AW.getR (pc' := 118) dX11_shift_115 ly_46 fX11_128 rfl ?_
  refine AW.iload_n (pc' := 119) dX11_shift_118 rfl ?_
  refine AW.aaldL (t := 53) (pc' := 120) dX11_shift_119 ly_50 (by decide) (by decide) (by decide) rfl ?_
  refine AW.iload_n (pc' := 121) dX11_shift_120 rfl ?_
  refine AW.aload_n (pc' := 122) dX11_shift_121 rfl ?_
  refine AW.getR (pc' := 125) dX11_shift_122 ly_0 fX11_81 rfl ?_
  refine AW.getR (pc' := 128) dX11_shift_125 ly_46 fX11_128 rfl ?_
  refine AW.iload_n (pc' := 129) dX11_shift_128 rfl ?_
  refine AW.aaldL (t := 55) (pc' := 130) dX11_shift_129 ly_50 (by decide) (by decide) (by decide) rfl ?_
  refine AW.iload (pc' := 132) dX11_shift_130 rfl ?_
  refine AW.iload (pc' := 134) dX11_shift_132 rfl ?_
  refine AW.copyL (pc' := 137) dX11_shift_134 mlX11_330 ly_53 ly_55 (by first | assumption | omega | (constructor <;> omega) | (simp only [Int.toNat_natCast]; omega) | exact b2_in _) (by first | assumption | omega | (constructor <;> omega) | (simp only [Int.toNat_natCast]; omega) | exact b2_in _) (by first | assumption | omega | (constructor <;> omega) | (simp only [Int.toNat_natCast]; omega) | exact b2_in _) (by first | assumption | omega | (constructor <;> omega) | (simp only [Int.toNat_natCast]; omega) | exact b2_in _) (by first | assumption | omega | (constructor <;> omega) | (simp only [Int.toNat_natCast]; omega) | exact b2_in _) (by decide) (by decide) ?_
  refine AW.iload (pc' := 139) dX11_shift_137 rfl ?_
  refine AW.iret dX11_shift_139 ?_ ?_
  · rfl
  · rfl
set_option maxRecDepth 100000 in
set_option maxHeartbeats 4000000 in
theorem tl_X11_shift25 {K : KT}  {dep : Nat} {h : Hp} {b d e x6 x7 : Int} (q0 : 0 ≤ b ∧ 0 ≤ d ∧ 0 ≤ e) (q1 : b + e ≤ 60) (q2 : d + e ≤ 60) (hd : 1 ≤ dep) :  AW K (XM K (some (vI e)) (hcpy h 53 56 b.toNat d.toNat e.toNat)) RX11 cX11_shift 8 (some .int) dep 111 [some (vR 0), some (vI (2)), some (vI (b)), some (vI (5)), some (vI (d)), some (vI (e)), some (vI (x6)), some (vI (x7))] [] h := by
  refine AW.aload_n (pc' := 112) dX11_shift_111 rfl ?_
  refine AW.getR (pc' := 115) dX11_shift_112 ly_0 fX11_81 rfl ?_
  refine AW.getR (pc' := 118) dX11_shift_115 ly_46 fX11_128 rfl ?_
  refine AW.iload_n (pc' := 119) dX11_shift_118 rfl ?_
  refine AW.aaldL (t := 53) (pc' := 120) dX11_shift_119 ly_50 (by decide) (by decide) (by decide) rfl ?_
  refine AW.iload_n (pc' := 121) dX11_shift_120 rfl ?_
  refine AW.aload_n (pc' := 122) dX11_shift_121 rfl ?_
  refine AW.getR (pc' := 125) dX11_shift_122 ly_0 fX11_81 rfl ?_
  refine AW.getR (pc' := 128) dX11_shift_125 ly_46 fX11_128 rfl ?_
  refine AW.iload_n (pc' := 129) dX11_shift_128 rfl ?_
  refine AW.aaldL (t := 56) (pc' := 130) dX11_shift_129 ly_50 (by decide) (by decide) (by decide) rfl ?_
  refine AW.iload (pc' := 132) dX11_shift_130 rfl ?_
  refine AW.iload (pc' := 134) dX11_shift_132 rfl ?_
  refine AW.copyL (pc' := 137) dX11_shift_134 mlX11_330 ly_53 ly_56 (by first | assumption | omega | (constructor <;> omega) | (simp only [Int.toNat_natCast]; omega) | exact b2_in _) (by first | assumption | omega | (constructor <;> omega) | (simp only [Int.toNat_natCast]; omega) | exact b2_in _) (by first | assumption | omega | (constructor <;> omega) | (simp only [Int.toNat_natCast]; omega) | exact b2_in _) (by first | assumption | omega | (constructor <;> omega) | (simp only [Int.toNat_natCast]; omega) | exact b2_in _) (by first | assumption | omega | (constructor <;> omega) | (simp only [Int.toNat_natCast]; omega) | exact b2_in _) (by decide) (by decide) ?_
  refine AW.iload (pc' := 139) dX11_shift_137 rfl ?_
  refine AW.iret dX11_shift_139 ?_ ?_
  · rfl
  · rfl
set_option maxRecDepth 100000 in
set_option maxHeartbeats 4000000 in
theorem tl_X11_shift30 {K : KT}  {dep : Nat} {h : Hp} {b d e x6 x7 : Int} (q0 : 0 ≤ b ∧ 0 ≤ d ∧ 0 ≤ e) (q1 : b + e ≤ 60) (q2 : d + e ≤ 60) (hd : 1 ≤ dep) :  AW K (XM K (some (vI e)) (hcpy h 54 51 b.toNat d.toNat e.toNat)) RX11 cX11_shift 8 (some .int) dep 111 [some (vR 0), some (vI (3)), some (vI (b)), some (vI (0)), some (vI (d)), some (vI (e)), some (vI (x6)), some (vI (x7))] [] h := by
  refine AW.aload_n (pc' := 112) dX11_shift_111 rfl ?_
  refine AW.getR (pc' := 115) dX11_shift_112 ly_0 fX11_81 rfl ?_
  refine AW.getR (pc' := 118) dX11_shift_115 ly_46 fX11_128 rfl ?_
  refine AW.iload_n (pc' := 119) dX11_shift_118 rfl ?_
  refine AW.aaldL (t := 54) (pc' := 120) dX11_shift_119 ly_50 (by decide) (by decide) (by decide) rfl ?_
  refine AW.iload_n (pc' := 121) dX11_shift_120 rfl ?_
  refine AW.aload_n (pc' := 122) dX11_shift_121 rfl ?_
  refine AW.getR (pc' := 125) dX11_shift_122 ly_0 fX11_81 rfl ?_
  refine AW.getR (pc' := 128) dX11_shift_125 ly_46 fX11_128 rfl ?_
  refine AW.iload_n (pc' := 129) dX11_shift_128 rfl ?_
  refine AW.aaldL (t := 51) (pc' := 130) dX11_shift_129 ly_50 (by decide) (by decide) (by decide) rfl ?_
  refine AW.iload (pc' := 132) dX11_shift_130 rfl ?_
  refine AW.iload (pc' := 134) dX11_shift_132 rfl ?_
  refine AW.copyL (pc' := 137) dX11_shift_134 mlX11_330 ly_54 ly_51 (by first | assumption | omega | (constructor <;> omega) | (simp only [Int.toNat_natCast]; omega) | exact b2_in _) (by first | assumption | omega | (constructor <;> omega) | (simp only [Int.toNat_natCast]; omega) | exact b2_in _) (by first | assumption | omega | (constructor <;> omega) | (simp only [Int.toNat_natCast]; omega) | exact b2_in _) (by first | assumption | omega | (constructor <;> omega) | (simp only [Int.toNat_natCast]; omega) | exact b2_in _) (by first | assumption | omega | (constructor <;> omega) | (simp only [Int.toNat_natCast]; omega) | exact b2_in _) (by decide) (by decide) ?_
  refine AW.iload (pc' := 139) dX11_shift_137 rfl ?_
  refine AW.iret dX11_shift_139 ?_ ?_
  · rfl
  · rfl
set_option maxRecDepth 100000 in
set_option maxHeartbeats 4000000 in
theorem tl_X11_shift31 {K : KT}  {dep : Nat} {h : Hp} {b d e x6 x7 : Int} (q0 : 0 ≤ b ∧ 0 ≤ d ∧ 0 ≤ e) (q1 : b + e ≤ 60) (q2 : d + e ≤ 60) (hd : 1 ≤ dep) :  AW K (XM K (some (vI e)) (hcpy h 54 52 b.toNat d.toNat e.toNat)) RX11 cX11_shift 8 (some .int) dep 111 [some (vR 0), some (vI (3)), some (vI (b)), some (vI (1)), some (vI (d)), some (vI (e)), some (vI (x6)), some (vI (x7))] [] h := by
  refine AW.aload_n (pc' := 112) dX11_shift_111 rfl ?_
  refine AW.getR (pc' := 115) dX11_shift_112 ly_0 fX11_81 rfl ?_
  refine AW.getR (pc' := 118) dX11_shift_115 ly_46 fX11_128 rfl ?_
  refine AW.iload_n (pc' := 119) dX11_shift_118 rfl ?_
  refine AW.aaldL (t := 54) (pc' := 120) dX11_shift_119 ly_50 (by decide) (by decide) (by decide) rfl ?_
  refine AW.iload_n (pc' := 121) dX11_shift_120 rfl ?_
  refine AW.aload_n (pc' := 122) dX11_shift_121 rfl ?_
  refine AW.getR (pc' := 125) dX11_shift_122 ly_0 fX11_81 rfl ?_
  refine AW.getR (pc' := 128) dX11_shift_125 ly_46 fX11_128 rfl ?_
  refine AW.iload_n (pc' := 129) dX11_shift_128 rfl ?_
  refine AW.aaldL (t := 52) (pc' := 130) dX11_shift_129 ly_50 (by decide) (by decide) (by decide) rfl ?_
  refine AW.iload (pc' := 132) dX11_shift_130 rfl ?_
  refine AW.iload (pc' := 134) dX11_shift_132 rfl ?_
  refine AW.copyL (pc' := 137) dX11_shift_134 mlX11_330 ly_54 ly_52 (by first | assumption | omega | (constructor <;> omega) | (simp only [Int.toNat_natCast]; omega) | exact b2_in _) (by first | assumption | omega | (constructor <;> omega) | (simp only [Int.toNat_natCast]; omega) | exact b2_in _) (by first | assumption | omega | (constructor <;> omega) | (simp only [Int.toNat_natCast]; omega) | exact b2_in _) (by first | assumption | omega | (constructor <;> omega) | (simp only [Int.toNat_natCast]; omega) | exact b2_in _) (by first | assumption | omega | (constructor <;> omega) | (simp only [Int.toNat_natCast]; omega) | exact b2_in _) (by decide) (by decide) ?_
  refine AW.iload (pc' := 139) dX11_shift_137 rfl ?_
  refine AW.iret dX11_shift_139 ?_ ?_
  · rfl
  · rfl
set_option maxRecDepth 100000 in
set_option maxHeartbeats 4000000 in
theorem tl_X11_shift32 {K : KT}  {dep : Nat} {h : Hp} {b d e x6 x7 : Int} (q0 : 0 ≤ b ∧ 0 ≤ d ∧ 0 ≤ e) (q1 : b + e ≤ 60) (q2 : d + e ≤ 60) (hd : 1 ≤ dep) :  AW K (XM K (some (vI e)) (hcpy h 54 53 b.toNat d.toNat e.toNat)) RX11 cX11_shift 8 (some .int) dep 111 [some (vR 0), some (vI (3)), some (vI (b)), some (vI (2)), some (vI (d)), some (vI (e)), some (vI (x6)), some (vI (x7))] [] h := by
  refine AW.aload_n (pc' := 112) dX11_shift_111 rfl ?_
  refine AW.getR (pc' := 115) dX11_shift_112 ly_0 fX11_81 rfl ?_
  refine AW.getR (pc' := 118) dX11_shift_115 ly_46 fX11_128 rfl ?_
  refine AW.iload_n (pc' := 119) dX11_shift_118 rfl ?_
  refine AW.aaldL (t := 54) (pc' := 120) dX11_shift_119 ly_50 (by decide) (by decide) (by decide) rfl ?_
  refine AW.iload_n (pc' := 121) dX11_shift_120 rfl ?_
  refine AW.aload_n (pc' := 122) dX11_shift_121 rfl ?_
  refine AW.getR (pc' := 125) dX11_shift_122 ly_0 fX11_81 rfl ?_
  refine AW.getR (pc' := 128) dX11_shift_125 ly_46 fX11_128 rfl ?_
  refine AW.iload_n (pc' := 129) dX11_shift_128 rfl ?_
  refine AW.aaldL (t := 53) (pc' := 130) dX11_shift_129 ly_50 (by decide) (by decide) (by decide) rfl ?_
  refine AW.iload (pc' := 132) dX11_shift_130 rfl ?_
  refine AW.iload (pc' := 134) dX11_shift_132 rfl ?_
  refine AW.copyL (pc' := 137) dX11_shift_134 mlX11_330 ly_54 ly_53 (by first | assumption | omega | (constructor <;> omega) | (simp only [Int.toNat_natCast]; omega) | exact b2_in _) (by first | assumption | omega | (constructor <;> omega) | (simp only [Int.toNat_natCast]; omega) | exact b2_in _) (by first | assumption | omega | (constructor <;> omega) | (simp only [Int.toNat_natCast]; omega) | exact b2_in _) (by first | assumption | omega | (constructor <;> omega) | (simp only [Int.toNat_natCast]; omega) | exact b2_in _) (by first | assumption | omega | (constructor <;> omega) | (simp only [Int.toNat_natCast]; omega) | exact b2_in _) (by decide) (by decide) ?_
  refine AW.iload (pc' := 139) dX11_shift_137 rfl ?_
  refine AW.iret dX11_shift_139 ?_ ?_
  · rfl
  · rfl
set_option maxRecDepth 100000 in
set_option maxHeartbeats 4000000 in
theorem tl_X11_shift33 {K : KT}  {dep : Nat} {h : Hp} {b d e x6 x7 : Int} (q0 : 0 ≤ b ∧ 0 ≤ d ∧ 0 ≤ e) (q1 : b + e ≤ 60) (q2 : d + e ≤ 60) (hd : 1 ≤ dep) :  AW K (XM K (some (vI e)) (hcpy h 54 54 b.toNat d.toNat e.toNat)) RX11 cX11_shift 8 (some .int) dep 111 [some (vR 0), some (vI (3)), some (vI (b)), some (vI (3)), some (vI (d)), some (vI (e)), some (vI (x6)), some (vI (x7))] [] h := by
  refine AW.aload_n (pc' := 112) dX11_shift_111 rfl ?_
  refine AW.getR (pc' := 115) dX11_shift_112 ly_0 fX11_81 rfl ?_
  refine AW.getR (pc' := 118) dX11_shift_115 ly_46 fX11_128 rfl ?_
  refine AW.iload_n (pc' := 119) dX11_shift_118 rfl ?_
  refine AW.aaldL (t := 54) (pc' := 120) dX11_shift_119 ly_50 (by decide) (by decide) (by decide) rfl ?_
  refine AW.iload_n (pc' := 121) dX11_shift_120 rfl ?_
  refine AW.aload_n (pc' := 122) dX11_shift_121 rfl ?_
  refine AW.getR (pc' := 125) dX11_shift_122 ly_0 fX11_81 rfl ?_
  refine AW.getR (pc' := 128) dX11_shift_125 ly_46 fX11_128 rfl ?_
  refine AW.iload_n (pc' := 129) dX11_shift_128 rfl ?_
  refine AW.aaldL (t := 54) (pc' := 130) dX11_shift_129 ly_50 (by decide) (by decide) (by decide) rfl ?_
  refine AW.iload (pc' := 132) dX11_shift_130 rfl ?_
  refine AW.iload (pc' := 134) dX11_shift_132 rfl ?_
  refine AW.copyL (pc' := 137) dX11_shift_134 mlX11_330 ly_54 ly_54 (by first | assumption | omega | (constructor <;> omega) | (simp only [Int.toNat_natCast]; omega) | exact b2_in _) (by first | assumption | omega | (constructor <;> omega) | (simp only [Int.toNat_natCast]; omega) | exact b2_in _) (by first | assumption | omega | (constructor <;> omega) | (simp only [Int.toNat_natCast]; omega) | exact b2_in _) (by first | assumption | omega | (constructor <;> omega) | (simp only [Int.toNat_natCast]; omega) | exact b2_in _) (by first | assumption | omega | (constructor <;> omega) | (simp only [Int.toNat_natCast]; omega) | exact b2_in _) (by decide) (by decide) ?_
  refine AW.iload (pc' := 139) dX11_shift_137 rfl ?_
  refine AW.iret dX11_shift_139 ?_ ?_
  · rfl
  · rfl
set_option maxRecDepth 100000 in
set_option maxHeartbeats 4000000 in
theorem tl_X11_shift34 {K : KT}  {dep : Nat} {h : Hp} {b d e x6 x7 : Int} (q0 : 0 ≤ b ∧ 0 ≤ d ∧ 0 ≤ e) (q1 : b + e ≤ 60) (q2 : d + e ≤ 60) (hd : 1 ≤ dep) :  AW K (XM K (some (vI e)) (hcpy h 54 55 b.toNat d.toNat e.toNat)) RX11 cX11_shift 8 (some .int) dep 111 [some (vR 0), some (vI (3)), some (vI (b)), some (vI (4)), some (vI (d)), some (vI (e)), some (vI (x6)), some (vI (x7))] [] h := by
  refine AW.aload_n (pc' := 112) dX11_shift_111 rfl ?_
  refine AW.getR (pc' := 115) dX11_shift_112 ly_0 fX11_81 rfl ?_
  refine AW.getR (pc' := 118) dX11_shift_115 ly_46 fX11_128 rfl ?_
  refine AW.iload_n (pc' := 119) dX11_shift_118 rfl ?_
  refine AW.aaldL (t := 54) (pc' := 120) dX11_shift_119 ly_50 (by decide) (by decide) (by decide) rfl ?_
  refine AW.iload_n (pc' := 121) dX11_shift_120 rfl ?_
  refine AW.aload_n (pc' := 122) dX11_shift_121 rfl ?_
  refine AW.getR (pc' := 125) dX11_shift_122 ly_0 fX11_81 rfl ?_
  refine AW.getR (pc' := 128) dX11_shift_125 ly_46 fX11_128 rfl ?_
  refine AW.iload_n (pc' := 129) dX11_shift_128 rfl ?_
  refine AW.aaldL (t := 55) (pc' := 130) dX11_shift_129 ly_50 (by decide) (by decide) (by decide) rfl ?_
  refine AW.iload (pc' := 132) dX11_shift_130 rfl ?_
  refine AW.iload (pc' := 134) dX11_shift_132 rfl ?_
  refine AW.copyL (pc' := 137) dX11_shift_134 mlX11_330 ly_54 ly_55 (by first | assumption | omega | (constructor <;> omega) | (simp only [Int.toNat_natCast]; omega) | exact b2_in _) (by first | assumption | omega | (constructor <;> omega) | (simp only [Int.toNat_natCast]; omega) | exact b2_in _) (by first | assumption | omega | (constructor <;> omega) | (simp only [Int.toNat_natCast]; omega) | exact b2_in _) (by first | assumption | omega | (constructor <;> omega) | (simp only [Int.toNat_natCast]; omega) | exact b2_in _) (by first | assumption | omega | (constructor <;> omega) | (simp only [Int.toNat_natCast]; omega) | exact b2_in _) (by decide) (by decide) ?_
  refine AW.iload (pc' := 139) dX11_shift_137 rfl ?_
  refine AW.iret dX11_shift_139 ?_ ?_
  · rfl
  · rfl
set_option maxRecDepth 100000 in
set_option maxHeartbeats 4000000 in
theorem tl_X11_shift35 {K : KT}  {dep : Nat} {h : Hp} {b d e x6 x7 : Int} (q0 : 0 ≤ b ∧ 0 ≤ d ∧ 0 ≤ e) (q1 : b + e ≤ 60) (q2 : d + e ≤ 60) (hd : 1 ≤ dep) :  AW K (XM K (some (vI e)) (hcpy h 54 56 b.toNat d.toNat e.toNat)) RX11 cX11_shift 8 (some .int) dep 111 [some (vR 0), some (vI (3)), some (vI (b)), some (vI (5)), some (vI (d)), some (vI (e)), some (vI (x6)), some (vI (x7))] [] h := by
  refine AW.aload_n (pc' := 112) dX11_shift_111 rfl ?_
  refine AW.getR (pc' := 115) dX11_shift_112 ly_0 fX11_81 rfl ?_
  refine AW.getR (pc' := 118) dX11_shift_115 ly_46 fX11_128 rfl ?_
  refine AW.iload_n (pc' := 119) dX11_shift_118 rfl ?_
  refine AW.aaldL (t := 54) (pc' := 120) dX11_shift_119 ly_50 (by decide) (by decide) (by decide) rfl ?_
  refine AW.iload_n (pc' := 121) dX11_shift_120 rfl ?_
  refine AW.aload_n (pc' := 122) dX11_shift_121 rfl ?_
  refine AW.getR (pc' := 125) dX11_shift_122 ly_0 fX11_81 rfl ?_
  refine AW.getR (pc' := 128) dX11_shift_125 ly_46 fX11_128 rfl ?_
  refine AW.iload_n (pc' := 129) dX11_shift_128 rfl ?_
  refine AW.aaldL (t := 56) (pc' := 130) dX11_shift_129 ly_50 (by decide) (by decide) (by decide) rfl ?_
  refine AW.iload (pc' := 132) dX11_shift_130 rfl ?_
  refine AW.iload (pc' := 134) dX11_shift_132 rfl ?_
  refine AW.copyL (pc' := 137) dX11_shift_134 mlX11_330 ly_54 ly_56 (by first | assumption | omega | (constructor <;> omega) | (simp only [Int.toNat_natCast]; omega) | exact b2_in _) (by first | assumption | omega | (constructor <;> omega) | (simp only [Int.toNat_natCast]; omega) | exact b2_in _) (by first | assumption | omega | (constructor <;> omega) | (simp only [Int.toNat_natCast]; omega) | exact b2_in _) (by first | assumption | omega | (constructor <;> omega) | (simp only [Int.toNat_natCast]; omega) | exact b2_in _) (by first | assumption | omega | (constructor <;> omega) | (simp only [Int.toNat_natCast]; omega) | exact b2_in _) (by decide) (by decide) ?_
  refine AW.iload (pc' := 139) dX11_shift_137 rfl ?_
  refine AW.iret dX11_shift_139 ?_ ?_
  · rfl
  · rfl
set_option maxRecDepth 100000 in
set_option maxHeartbeats 4000000 in
theorem tl_X11_shift40 {K : KT}  {dep : Nat} {h : Hp} {b d e x6 x7 : Int} (q0 : 0 ≤ b ∧ 0 ≤ d ∧ 0 ≤ e) (q1 : b + e ≤ 60) (q2 : d + e ≤ 60) (hd : 1 ≤ dep) :  AW K (XM K (some (vI e)) (hcpy h 55 51 b.toNat d.toNat e.toNat)) RX11 cX11_shift 8 (some .int) dep 111 [some (vR 0), some (vI (4)), some (vI (b)), some (vI (0)), some (vI (d)), some (vI (e)), some (vI (x6)), some (vI (x7))] [] h := by
  refine AW.aload_n (pc' := 112) dX11_shift_111 rfl ?_
  refine AW.getR (pc' := 115) dX11_shift_112 ly_0 fX11_81 rfl ?_
  refine AW.getR (pc' := 118) dX11_shift_115 ly_46 fX11_128 rfl ?_
  refine AW.iload_n (pc' := 119) dX11_shift_118 rfl ?_
  refine AW.aaldL (t := 55) (pc' := 120) dX11_shift_119 ly_50 (by decide) (by decide) (by decide) rfl ?_
  refine AW.iload_n (pc' := 121) dX11_shift_120 rfl ?_
  refine AW.aload_n (pc' := 122) dX11_shift_121 rfl ?_
  refine AW.getR (pc' := 125) dX11_shift_122 ly_0 fX11_81 rfl ?_
  refine AW.getR (pc' := 128) dX11_shift_125 ly_46 fX11_128 rfl ?_
  refine AW.iload_n (pc' := 129) dX11_shift_128 rfl ?_
  refine AW.aaldL (t := 51) (pc' := 130) dX11_shift_129 ly_50 (by decide) (by decide) (by decide) rfl ?_
  refine AW.iload (pc' := 132) dX11_shift_130 rfl ?_
  refine AW.iload (pc' := 134) dX11_shift_132 rfl ?_
  refine AW.copyL (pc' := 137) dX11_shift_134 mlX11_330 ly_55 ly_51 (by first | assumption | omega | (constructor <;> omega) | (simp only [Int.toNat_natCast]; omega) | exact b2_in _) (by first | assumption | omega | (constructor <;> omega) | (simp only [Int.toNat_natCast]; omega) | exact b2_in _) (by first | assumption | omega | (constructor <;> omega) | (simp only [Int.toNat_natCast]; omega) | exact b2_in _) (by first | assumption | omega | (constructor <;> omega) | (simp only [Int.toNat_natCast]; omega) | exact b2_in _) (by first | assumption | omega | (constructor <;> omega) | (simp only [Int.toNat_natCast]; omega) | exact b2_in _) (by decide) (by decide) ?_
  refine AW.iload (pc' := 139) dX11_shift_137 rfl ?_
  refine AW.iret dX11_shift_139 ?_ ?_
  · rfl
  · rfl
set_option maxRecDepth 100000 in
set_option maxHeartbeats 4000000 in
theorem tl_X11_shift41 {K : KT}  {dep : Nat} {h : Hp} {b d e x6 x7 : Int} (q0 : 0 ≤ b ∧ 0 ≤ d ∧ 0 ≤ e) (q1 : b + e ≤ 60) (q2 : d + e ≤ 60) (hd : 1 ≤ dep) :  AW K (XM K (some (vI e)) (hcpy h 55 52 b.toNat d.toNat e.toNat)) RX11 cX11_shift 8 (some .int) dep 111 [some (vR 0), some (vI (4)), some (vI (b)), some (vI (1)), some (vI (d)), some (vI (e)), some (vI (x6)), some (vI (x7))] [] h := by
  refine AW.aload_n (pc' := 112) dX11_shift_111 rfl ?_
  refine AW.getR (pc' := 115) dX11_shift_112 ly_0 fX11_81 rfl ?_
  refine AW.getR (pc' := 118) dX11_shift_115 ly_46 fX11_128 rfl ?_
  refine AW.iload_n (pc' := 119) dX11_shift_118 rfl ?_
  refine AW.aaldL (t := 55) (pc' := 120) dX11_shift_119 ly_50 (by decide) (by decide) (by decide) rfl ?_
  refine AW.iload_n (pc' := 121) dX11_shift_120 rfl ?_
  refine AW.aload_n (pc' := 122) dX11_shift_121 rfl ?_
  refine AW.getR (pc' := 125) dX11_shift_122 ly_0 fX11_81 rfl ?_
  refine AW.getR (pc' := 128) dX11_shift_125 ly_46 fX11_128 rfl ?_
  refine AW.iload_n (pc' := 129) dX11_shift_128 rfl ?_
  refine AW.aaldL (t := 52) (pc' := 130) dX11_shift_129 ly_50 (by decide) (by decide) (by decide) rfl ?_
  refine AW.iload (pc' := 132) dX11_shift_130 rfl ?_
  refine AW.iload (pc' := 134) dX11_shift_132 rfl ?_
  refine AW.copyL (pc' := 137) dX11_shift_134 mlX11_330 ly_55 ly_52 (by first | assumption | omega | (constructor <;> omega) | (simp only [Int.toNat_natCast]; omega) | exact b2_in _) (by first | assumption | omega | (constructor <;> omega) | (simp only [Int.toNat_natCast]; omega) | exact b2_in _) (by first | assumption | omega | (constructor <;> omega) | (simp only [Int.toNat_natCast]; omega) | exact b2_in _) (by first | assumption | omega | (constructor <;> omega) | (simp only [Int.toNat_natCast]; omega) | exact b2_in _) (by first | assumption | omega | (constructor <;> omega) | (simp only [Int.toNat_natCast]; omega) | exact b2_in _) (by decide) (by decide) ?_
  refine AW.iload (pc' := 139) dX11_shift_137 rfl ?_
  refine AW.iret dX11_shift_139 ?_ ?_
  · rfl
  · rfl
set_option maxRecDepth 100000 in
set_option maxHeartbeats 4000000 in
theorem tl_X11_shift42 {K : KT}  {dep : Nat} {h : Hp} {b d e x6 x7 : Int} (q0 : 0 ≤ b ∧ 0 ≤ d ∧ 0 ≤ e) (q1 : b + e ≤ 60) (q2 : d + e ≤ 60) (hd : 1 ≤ dep) :  AW K (XM K (some (vI e)) (hcpy h 55 53 b.toNat d.toNat e.toNat)) RX11 cX11_shift 8 (some .int) dep 111 [some (vR 0), some (vI (4)), some (vI (b)), some (vI (2)), some (vI (d)), some (vI (e)), some (vI (x6)), some (vI (x7))] [] h := by
  refine AW.aload_n (pc' := 112) dX11_shift_111 rfl ?_
  refine AW.getR (pc' := 115) dX11_shift_112 ly_0 fX11_81 rfl ?_
  refine AW.getR (pc' := 118) dX11_shift_115 ly_46 fX11_128 rfl ?_
  refine AW.iload_n (pc' := 119) dX11_shift_118 rfl ?_
  refine AW.aaldL (t := 55) (pc' := 120) dX11_shift_119 ly_50 (by decide) (by decide) (by decide) rfl ?_
  refine AW.iload_n (pc' := 121) dX11_shift_120 rfl ?_
  refine AW.aload_n (pc' := 122) dX11_shift_121 rfl ?_
  refine AW.getR (pc' := 125) dX11_shift_122 ly_0 fX11_81 rfl ?_
  refine AW.getR (pc' := 128) dX11_shift_125 ly_46 fX11_128 rfl ?_
  refine AW.iload_n (pc' := 129) dX11_shift_128 rfl ?_
  refine AW.aaldL (t := 53) (pc' := 130) dX11_shift_129 ly_50 (by decide) (by decide) (by decide) rfl ?_
  refine AW.iload (pc' := 132) dX11_shift_130 rfl ?_
  refine AW.iload (pc' := 134) dX11_shift_132 rfl ?_
  refine AW.copyL (pc' := 137) dX11_shift_134 mlX11_330 ly_55 ly_53 (by first | assumption | omega | (constructor <;> omega) | (simp only [Int.toNat_natCast]; omega) | exact b2_in _) (by first | assumption | omega | (constructor <;> omega) | (simp only [Int.toNat_natCast]; omega) | exact b2_in _) (by first | assumption | omega | (constructor <;> omega) | (simp only [Int.toNat_natCast]; omega) | exact b2_in _) (by first | assumption | omega | (constructor <;> omega) | (simp only [Int.toNat_natCast]; omega) | exact b2_in _) (by first | assumption | omega | (constructor <;> omega) | (simp only [Int.toNat_natCast]; omega) | exact b2_in _) (by decide) (by decide) ?_
  refine AW.iload (pc' := 139) dX11_shift_137 rfl ?_
  refine AW.iret dX11_shift_139 ?_ ?_
  · rfl
  · rfl
set_option maxRecDepth 100000 in
set_option maxHeartbeats 4000000 in
theorem tl_X11_shift43 {K : KT}  {dep : Nat} {h : Hp} {b d e x6 x7 : Int} (q0 : 0 ≤ b ∧ 0 ≤ d ∧ 0 ≤ e) (q1 : b + e ≤ 60) (q2 : d + e ≤ 60) (hd : 1 ≤ dep) :  AW K (XM K (some (vI e)) (hcpy h 55 54 b.toNat d.toNat e.toNat)) RX11 cX11_shift 8 (some .int) dep 111 [some (vR 0), some (vI (4)), some (vI (b)), some (vI (3)), some (vI (d)), some (vI (e)), some (vI (x6)), some (vI (x7))] [] h := by
  refine AW.aload_n (pc' := 112) dX11_shift_111 rfl ?_
  refine AW.getR (pc' := 115) dX11_shift_112 ly_0 fX11_81 rfl ?_
  refine AW.getR (pc' := 118) dX11_shift_115 ly_46 fX11_128 rfl ?_
  refine AW.iload_n (pc' := 119) dX11_shift_118 rfl ?_
  refine AW.aaldL (t := 55) (pc' := 120) dX11_shift_119 ly_50 (by decide) (by decide) (by decide) rfl ?_
  refine AW.iload_n (pc' := 121) dX11_shift_120 rfl ?_
  refine AW.aload_n (pc' := 122) dX11_shift_121 rfl ?_
  refine AW.getR (pc' := 125) dX11_shift_122 ly_0 fX11_81 rfl ?_
  refine AW.getR (pc' := 128) dX11_shift_125 ly_46 fX11_128 rfl ?_
  refine AW.iload_n (pc' := 129) dX11_shift_128 rfl ?_
  refine AW.aaldL (t := 54) (pc' := 130) dX11_shift_129 ly_50 (by decide) (by decide) (by decide) rfl ?_
  refine AW.iload (pc' := 132) dX11_shift_130 rfl ?_
  refine AW.iload (pc' := 134) dX11_shift_132 rfl ?_
  refine AW.copyL (pc' := 137) dX11_shift_134 mlX11_330 ly_55 ly_54 (by first | assumption | omega | (constructor <;> omega) | (simp only [Int.toNat_natCast]; omega) | exact b2_in _) (by first | assumption | omega | (constructor <;> omega) | (simp only [Int.toNat_natCast]; omega) | exact b2_in _) (by first | assumption | omega | (constructor <;> omega) | (simp only [Int.toNat_natCast]; omega) | exact b2_in _) (by first | assumption | omega | (constructor <;> omega) | (simp only [Int.toNat_natCast]; omega) | exact b2_in _) (by first | assumption | omega | (constructor <;> omega) | (simp only [Int.toNat_natCast]; omega) | exact b2_in _) (by decide) (by decide) ?_
  refine AW.iload (pc' := 139) dX11_shift_137 rfl ?_
  refine AW.iret dX11_shift_139 ?_ ?_
  · rfl
  · rfl
set_option maxRecDepth 100000 in
set_option maxHeartbeats 4000000 in
theorem tl_X11_shift44 {K : KT}  {dep : Nat} {h : Hp} {b d e x6 x7 : Int} (q0 : 0 ≤ b ∧ 0 ≤ d ∧ 0 ≤ e) (q1 : b + e ≤ 60) (q2 : d + e ≤ 60) (hd : 1 ≤ dep) :  AW K (XM K (some (vI e)) (hcpy h 55 55 b.toNat d.toNat e.toNat)) RX11 cX11_shift 8 (some .int) dep 111 [some (vR 0), some (vI (4)), some (vI (b)), some (vI (4)), some (vI (d)), some (vI (e)), some (vI (x6)), some (vI (x7))] [] h := by
  refine AW.aload_n (pc' := 112) dX11_shift_111 rfl ?_
  refine AW.getR (pc' := 115) dX11_shift_112 ly_0 fX11_81 rfl ?_
  refine AW.getR (pc' := 118) dX11_shift_115 ly_46 fX11_128 rfl ?_
  refine AW.iload_n (pc' := 119) dX11_shift_118 rfl ?_
  refine AW.aaldL (t := 55) (pc' := 120) dX11_shift_119 ly_50 (by decide) (by decide) (by decide) rfl ?_
  refine AW.iload_n (pc' := 121) dX11_shift_120 rfl ?_
  refine AW.aload_n (pc' := 122) dX11_shift_121 rfl ?_
  refine AW.getR (pc' := 125) dX11_shift_122 ly_0 fX11_81 rfl ?_
  refine AW.getR (pc' := 128) dX11_shift_125 ly_46 fX11_128 rfl ?_
  refine AW.iload_n (pc' := 129) dX11_shift_128 rfl ?_
  refine AW.aaldL (t := 55) (pc' := 130) dX11_shift_129 ly_50 (by decide) (by decide) (by decide) rfl ?_
  refine AW.iload (pc' := 132) dX11_shift_130 rfl ?_
  refine AW.iload (pc' := 134) dX11_shift_132 rfl ?_
  refine AW.copyL (pc' := 137) dX11_shift_134 mlX11_330 ly_55 ly_55 (by first | assumption | omega | (constructor <;> omega) | (simp only [Int.toNat_natCast]; omega) | exact b2_in _) (by first | assumption | omega | (constructor <;> omega) | (simp only [Int.toNat_natCast]; omega) | exact b2_in _) (by first | assumption | omega | (constructor <;> omega) | (simp only [Int.toNat_natCast]; omega) | exact b2_in _) (by first | assumption | omega | (constructor <;> omega) | (simp only [Int.toNat_natCast]; omega) | exact b2_in _) (by first | assumption | omega | (constructor <;> omega) | (simp only [Int.toNat_natCast]; omega) | exact b2_in _) (by decide) (by decide) ?_
  refine AW.iload (pc' := 139) dX11_shift_137 rfl ?_
  refine AW.iret dX11_shift_139 ?_ ?_
  · rfl
  · rfl
set_option maxRecDepth 100000 in
set_option maxHeartbeats 4000000 in
theorem tl_X11_shift45 {K : KT}  {dep : Nat} {h : Hp} {b d e x6 x7 : Int} (q0 : 0 ≤ b ∧ 0 ≤ d ∧ 0 ≤ e) (q1 : b + e ≤ 60) (q2 : d + e ≤ 60) (hd : 1 ≤ dep) :  AW K (XM K (some (vI e)) (hcpy h 55 56 b.toNat d.toNat e.toNat)) RX11 cX11_shift 8 (some .int) dep 111 [some (vR 0), some (vI (4)), some (vI (b)), some (vI (5)), some (vI (d)), some (vI (e)), some (vI (x6)), some (vI (x7))] [] h := by
  refine AW.aload_n (pc' := 112) dX11_shift_111 rfl ?_
  refine AW.getR (pc' := 115) dX11_shift_112 ly_0 fX11_81 rfl ?_
  refine AW.getR (pc' := 118) dX11_shift_115 ly_46 fX11_128 rfl ?_
  refine AW.iload_n (pc' := 119) dX11_shift_118 rfl ?_
  refine AW.aaldL (t := 55) (pc' := 120) dX11_shift_119 ly_50 (by decide) (by decide) (by decide) rfl ?_
  refine AW.iload_n (pc' := 121) dX11_shift_120 rfl ?_
  refine AW.aload_n (pc' := 122) dX11_shift_121 rfl ?_
  refine AW.getR (pc' := 125) dX11_shift_122 ly_0 fX11_81 rfl ?_
  refine AW.getR (pc' := 128) dX11_shift_125 ly_46 fX11_128 rfl ?_
  refine AW.iload_n (pc' := 129) dX11_shift_128 rfl ?_
  refine AW.aaldL (t := 56) (pc' := 130) dX11_shift_129 ly_50 (by decide) (by decide) (by decide) rfl ?_
  refine AW.iload (pc' := 132) dX11_shift_130 rfl ?_
  refine AW.iload (pc' := 134) dX11_shift_132 rfl ?_
  refine AW.copyL (pc' := 137) dX11_shift_134 mlX11_330 ly_55 ly_56 (by first | assumption | omega | (constructor <;> omega) | (simp only [Int.toNat_natCast]; omega) | exact b2_in _) (by first | assumption | omega | (constructor <;> omega) | (simp only [Int.toNat_natCast]; omega) | exact b2_in _) (by first | assumption | omega | (constructor <;> omega) | (simp only [Int.toNat_natCast]; omega) | exact b2_in _) (by first | assumption | omega | (constructor <;> omega) | (simp only [Int.toNat_natCast]; omega) | exact b2_in _) (by first | assumption | omega | (constructor <;> omega) | (simp only [Int.toNat_natCast]; omega) | exact b2_in _) (by decide) (by decide) ?_
  refine AW.iload (pc' := 139) dX11_shift_137 rfl ?_
  refine AW.iret dX11_shift_139 ?_ ?_
  · rfl
  · rfl
set_option maxRecDepth 100000 in
set_option maxHeartbeats 4000000 in
theorem tl_X11_shift50 {K : KT}  {dep : Nat} {h : Hp} {b d e x6 x7 : Int} (q0 : 0 ≤ b ∧ 0 ≤ d ∧ 0 ≤ e) (q1 : b + e ≤ 60) (q2 : d + e ≤ 60) (hd : 1 ≤ dep) :  AW K (XM K (some (vI e)) (hcpy h 56 51 b.toNat d.toNat e.toNat)) RX11 cX11_shift 8 (some .int) dep 111 [some (vR 0), some (vI (5)), some (vI (b)), some (vI (0)), some (vI (d)), some (vI (e)), some (vI (x6)), some (vI (x7))] [] h := by
  refine AW.aload_n (pc' := 112) dX11_shift_111 rfl ?_
  refine AW.getR (pc' := 115) dX11_shift_112 ly_0 fX11_81 rfl ?_
  refine AW.getR (pc' := 118) dX11_shift_115 ly_46 fX11_128 rfl ?_
  refine AW.iload_n (pc' := 119) dX11_shift_118 rfl ?_
  refine AW.aaldL (t := 56) (pc' := 120) dX11_shift_119 ly_50 (by decide) (by decide) (by decide) rfl ?_
  refine AW.iload_n (pc' := 121) dX11_shift_120 rfl ?_
  refine AW.aload_n (pc' := 122) dX11_shift_121 rfl ?_
  refine AW.getR (pc' := 125) dX11_shift_122 ly_0 fX11_81 rfl ?_
  refine AW.getR (pc' := 128) dX11_shift_125 ly_46 fX11_128 rfl ?_
  refine AW.iload_n (pc' := 129) dX11_shift_128 rfl ?_
  refine AW.aaldL (t := 51) (pc' := 130) dX11_shift_129 ly_50 (by decide) (by decide) (by decide) rfl ?_
  refine AW.iload (pc' := 132) dX11_shift_130 rfl ?_
  refine AW.iload (pc' := 134) dX11_shift_132 rfl ?_
  refine AW.copyL (pc' := 137) dX11_shift_134 mlX11_330 ly_56 ly_51 (by first | assumption | omega | (constructor <;> omega) | (simp only [Int.toNat_natCast]; omega) | exact b2_in _) (by first | assumption | omega | (constructor <;> omega) | (simp only [Int.toNat_natCast]; omega) | exact b2_in _) (by first | assumption | omega | (constructor <;> omega) | (simp only [Int.toNat_natCast]; omega) | exact b2_in _) (by first | assumption | omega | (constructor <;> omega) | (simp only [Int.toNat_natCast]; omega) | exact b2_in _) (by first | assumption | omega | (constructor <;> omega) | (simp only [Int.toNat_natCast]; omega) | exact b2_in _) (by decide) (by decide) ?_
  refine AW.iload (pc' := 139) dX11_shift_137 rfl ?_
  refine AW.iret dX11_shift_139 ?_ ?_
  · rfl
  · rfl
set_option maxRecDepth 100000 in
set_option maxHeartbeats 4000000 in
theorem tl_X11_shift51 {K : KT}  {dep : Nat} {h : Hp} {b d e x6 x7 : Int} (q0 : 0 ≤ b ∧ 0 ≤ d ∧ 0 ≤ e) (q1 : b + e ≤ 60) (q2 : d + e ≤ 60) (hd : 1 ≤ dep) :  AW K (XM K (some (vI e)) (hcpy h 56 52 b.toNat d.toNat e.toNat)) RX11 cX11_shift 8 (some .int) dep 111 [some (vR 0), some (vI (5)), some (vI (b)), some (vI (1)), some (vI (d)), some (vI (e)), some (vI (x6)), some (vI (x7))] [] h := by
  refine AW.aload_n (pc' := 112) dX11_shift_111 rfl ?_
  refine AW.getR (pc' := 115) dX11_shift_112 ly_0 fX11_81 rfl ?_
  refine AW.getR (pc' := 118) dX11_shift_115 ly_46 fX11_128 rfl ?_
  refine AW.iload_n (pc' := 119) dX11_shift_118 rfl ?_
  refine AW.aaldL (t := 56) (pc' := 120) dX11_shift_119 ly_50 (by decide) (by decide) (by decide) rfl ?_
  refine AW.iload_n (pc' := 121) dX11_shift_120 rfl ?_
  refine AW.aload_n (pc' := 122) dX11_shift_121 rfl ?_
  refine AW.getR (pc' := 125) dX11_shift_122 ly_0 fX11_81 rfl ?_
  refine AW.getR (pc' := 128) dX11_shift_125 ly_46 fX11_128 rfl ?_
  refine AW.iload_n (pc' := 129) dX11_shift_128 rfl ?_
  refine AW.aaldL (t := 52) (pc' := 130) dX11_shift_129 ly_50 (by decide) (by decide) (by decide) rfl ?_
  refine AW.iload (pc' := 132) dX11_shift_130 rfl ?_
  refine AW.iload (pc' := 134) dX11_shift_132 rfl ?_
  refine AW.copyL (pc' := 137) dX11_shift_134 mlX11_330 ly_56 ly_52 (by first | assumption | omega | (constructor <;> omega) | (simp only [Int.toNat_natCast]; omega) | exact b2_in _) (by first | assumption | omega | (constructor <;> omega) | (simp only [Int.toNat_natCast]; omega) | exact b2_in _) (by first | assumption | omega | (constructor <;> omega) | (simp only [Int.toNat_natCast]; omega) | exact b2_in _) (by first | assumption | omega | (constructor <;> omega) | (simp only [Int.toNat_natCast]; omega) | exact b2_in _) (by first | assumption | omega | (constructor <;> omega) | (simp only [Int.toNat_natCast]; omega) | exact b2_in _) (by decide) (by decide) ?_
  refine AW.iload (pc' := 139) dX11_shift_137 rfl ?_
  refine AW.iret dX11_shift_139 ?_ ?_
  · rfl
  · rfl
set_option maxRecDepth 100000 in
set_option maxHeartbeats 4000000 in
theorem tl_X11_shift52 {K : KT}  {dep : Nat} {h : Hp} {b d e x6 x7 : Int} (q0 : 0 ≤ b ∧ 0 ≤ d ∧ 0 ≤ e) (q1 : b + e ≤ 60) (q2 : d + e ≤ 60) (hd : 1 ≤ dep) :  AW K (XM K (some (vI e)) (hcpy h 56 53 b.toNat d.toNat e.toNat)) RX11 cX11_shift 8 (some .int) dep 111 [some (vR 0), some (vI (5)), some (vI (b)), some (vI (2)), some (vI (d)), some (vI (e)), some (vI (x6)), some (vI (x7))] [] h := by
  refine AW.aload_n (pc' := 112) dX11_shift_111 rfl ?_
  refine AW.getR (pc' := 115) dX11_shift_112 ly_0 fX11_81 rfl ?_
  refine AW.getR (pc' := 118) dX11_shift_115 ly_46 fX11_128 rfl ?_
  refine AW.iload_n (pc' := 119) dX11_shift_118 rfl ?_
  refine AW.aaldL (t := 56) (pc' := 120) dX11_shift_119 ly_50 (by decide) (by decide) (by decide) rfl ?_
  refine AW.iload_n (pc' := 121) dX11_shift_120 rfl ?_
  refine AW.aload_n (pc' := 122) dX11_shift_121 rfl ?_
  refine AW.getR (pc' := 125) dX11_shift_122 ly_0 fX11_81 rfl ?_
  refine AW.getR (pc' := 128) dX11_shift_125 ly_46 fX11_128 rfl ?_
  refine AW.iload_n (pc' := 129) dX11_shift_128 rfl ?_
  refine AW.aaldL (t := 53) (pc' := 130) dX11_shift_129 ly_50 (by decide) (by decide) (by decide) rfl ?_
  refine AW.iload (pc' := 132) dX11_shift_130 rfl ?_
  refine AW.iload (pc' := 134) dX11_shift_132 rfl ?_
  refine AW.copyL (pc' := 137) dX11_shift_134 mlX11_330 ly_56 ly_53 (by first | assumption | omega | (constructor <;> omega) | (simp only [Int.toNat_natCast]; omega) | exact b2_in _) (by first | assumption | omega | (constructor <;> omega) | (simp only [Int.toNat_natCast]; omega) | exact b2_in _) (by first | assumption | omega | (constructor <;> omega) | (simp only [Int.toNat_natCast]; omega) | exact b2_in _) (by first | assumption | omega | (constructor <;> omega) | (simp only [Int.toNat_natCast]; omega) | exact b2_in _) (by first | assumption | omega | (constructor <;> omega) | (simp only [Int.toNat_natCast]; omega) | exact b2_in _) (by decide) (by decide) ?_
  refine AW.iload (pc' := 139) dX11_shift_137 rfl ?_
  refine AW.iret dX11_shift_139 ?_ ?_
  · rfl
  · rfl
set_option maxRecDepth 100000 in
set_option maxHeartbeats 4000000 in
theorem tl_X11_shift53 {K : KT}  {dep : Nat} {h : Hp} {b d e x6 x7 : Int} (q0 : 0 ≤ b ∧ 0 ≤ d ∧ 0 ≤ e) (q1 : b + e ≤ 60) (q2 : d + e ≤ 60) (hd : 1 ≤ dep) :  AW K (XM K (some (vI e)) (hcpy h 56 54 b.toNat d.toNat e.toNat)) RX11 cX11_shift 8 (some .int) dep 111 [some (vR 0), some (vI (5)), some (vI (b)), some (vI (3)), some (vI (d)), some (vI (e)), some (vI (x6)), some (vI (x7))] [] h := by
  refine AW.aload_n (pc' := 112) dX11_shift_111 rfl ?_
  refine AW.getR (pc' := 115) dX11_shift_112 ly_0 fX11_81 rfl ?_
  refine AW.getR (pc' := 118) dX11_shift_115 ly_46 fX11_128 rfl ?_
  refine AW.iload_n (pc' := 119) dX11_shift_118 rfl ?_
  refine AW.aaldL (t := 56) (pc' := 120) dX11_shift_119 ly_50 (by decide) (by decide) (by decide) rfl ?_
  refine AW.iload_n (pc' := 121) dX11_shift_120 rfl ?_
  refine AW.aload_n (pc' := 122) dX11_shift_121 rfl ?_
  refine AW.getR (pc' := 125) dX11_shift_122 ly_0 fX11_81 rfl ?_
  refine AW.getR (pc' := 128) dX11_shift_125 ly_46 fX11_128 rfl ?_
  refine AW.iload_n (pc' := 129) dX11_shift_128 rfl ?_
  refine AW.aaldL (t := 54) (pc' := 130) dX11_shift_129 ly_50 (by decide) (by decide) (by decide) rfl ?_
  refine AW.iload (pc' := 132) dX11_shift_130 rfl ?_
  refine AW.iload (pc' := 134) dX11_shift_132 rfl ?_
  refine AW.copyL (pc' := 137) dX11_shift_134 mlX11_330 ly_56 ly_54 (by first | assumption | omega | (constructor <;> omega) | (simp only [Int.toNat_natCast]; omega) | exact b2_in _) (by first | assumption | omega | (constructor <;> omega) | (simp only [Int.toNat_natCast]; omega) | exact b2_in _) (by first | assumption | omega | (constructor <;> omega) | (simp only [Int.toNat_natCast]; omega) | exact b2_in _) (by first | assumption | omega | (constructor <;> omega) | (simp only [Int.toNat_natCast]; omega) | exact b2_in _) (by first | assumption | omega | (constructor <;> omega) | (simp only [Int.toNat_natCast]; omega) | exact b2_in _) (by decide) (by decide) ?_
  refine AW.iload (pc' := 139) dX11_shift_137 rfl ?_
  refine AW.iret dX11_shift_139 ?_ ?_
  · rfl
  · rfl
set_option maxRecDepth 100000 in
set_option maxHeartbeats 4000000 in
theorem tl_X11_shift54 {K : KT}  {dep : Nat} {h : Hp} {b d e x6 x7 : Int} (q0 : 0 ≤ b ∧ 0 ≤ d ∧ 0 ≤ e) (q1 : b + e ≤ 60) (q2 : d + e ≤ 60) (hd : 1 ≤ dep) :  AW K (XM K (some (vI e)) (hcpy h 56 55 b.toNat d.toNat e.toNat)) RX11 cX11_shift 8 (some .int) dep 111 [some (vR 0), some (vI (5)), some (vI (b)), some (vI (4)), some (vI (d)), some (vI (e)), some (vI (x6)), some (vI (x7))] [] h := by
  refine AW.aload_n (pc' := 112) dX11_shift_111 rfl ?_
  refine AW.getR (pc' := 115) dX11_shift_112 ly_0 fX11_81 rfl ?_
  refine AW.getR (pc' := 118) dX11_shift_115 ly_46 fX11_128 rfl ?_
  refine AW.iload_n (pc' := 119) dX11_shift_118 rfl ?_
  refine AW.aaldL (t := 56) (pc' := 120) dX11_shift_119 ly_50 (by decide) (by decide) (by decide) rfl ?_
  refine AW.iload_n (pc' := 121) dX11_shift_120 rfl ?_
  refine AW.aload_n (pc' := 122) dX11_shift_121 rfl ?_
  refine AW.getR (pc' := 125) dX11_shift_122 ly_0 fX11_81 rfl ?_
  refine AW.getR (pc' := 128) dX11_shift_125 ly_46 fX11_128 rfl ?_
  refine AW.iload_n (pc' := 129) dX11_shift_128 rfl ?_
  refine AW.aaldL (t := 55) (pc' := 130) dX11_shift_129 ly_50 (by decide) (by decide) (by decide) rfl ?_
  refine AW.iload (pc' := 132) dX11_shift_130 rfl ?_
  refine AW.iload (pc' := 134) dX11_shift_132 rfl ?_
  refine AW.copyL (pc' := 137) dX11_shift_134 mlX11_330 ly_56 ly_55 (by first | assumption | omega | (constructor <;> omega) | (simp only [Int.toNat_natCast]; omega) | exact b2_in _) (by first | assumption | omega | (constructor <;> omega) | (simp only [Int.toNat_natCast]; omega) | exact b2_in _) (by first | assumption | omega | (constructor <;> omega) | (simp only [Int.toNat_natCast]; omega) | exact b2_in _) (by first | assumption | omega | (constructor <;> omega) | (simp only [Int.toNat_natCast]; omega) | exact b2_in _) (by first | assumption | omega | (constructor <;> omega) | (simp only [Int.toNat_natCast]; omega) | exact b2_in _) (by decide) (by decide) ?_
  refine AW.iload (pc' := 139) dX11_shift_137 rfl ?_
  refine AW.iret dX11_shift_139 ?_ ?_
  · rfl
  · rfl
set_option maxRecDepth 100000 in
set_option maxHeartbeats 4000000 in
theorem tl_X11_shift55 {K : KT}  {dep : Nat} {h : Hp} {b d e x6 x7 : Int} (q0 : 0 ≤ b ∧ 0 ≤ d ∧ 0 ≤ e) (q1 : b + e ≤ 60) (q2 : d + e ≤ 60) (hd : 1 ≤ dep) :  AW K (XM K (some (vI e)) (hcpy h 56 56 b.toNat d.toNat e.toNat)) RX11 cX11_shift 8 (some .int) dep 111 [some (vR 0), some (vI (5)), some (vI (b)), some (vI (5)), some (vI (d)), some (vI (e)), some (vI (x6)), some (vI (x7))] [] h := by
  refine AW.aload_n (pc' := 112) dX11_shift_111 rfl ?_
  refine AW.getR (pc' := 115) dX11_shift_112 ly_0 fX11_81 rfl ?_
  refine AW.getR (pc' := 118) dX11_shift_115 ly_46 fX11_128 rfl ?_
  refine AW.iload_n (pc' := 119) dX11_shift_118 rfl ?_
  refine AW.aaldL (t := 56) (pc' := 120) dX11_shift_119 ly_50 (by decide) (by decide) (by decide) rfl ?_
  refine AW.iload_n (pc' := 121) dX11_shift_120 rfl ?_
  refine AW.aload_n (pc' := 122) dX11_shift_121 rfl ?_
  refine AW.getR (pc' := 125) dX11_shift_122 ly_0 fX11_81 rfl ?_
  refine AW.getR (pc' := 128) dX11_shift_125 ly_46 fX11_128 rfl ?_
  refine AW.iload_n (pc' := 129) dX11_shift_128 rfl ?_
  refine AW.aaldL (t := 56) (pc' := 130) dX11_shift_129 ly_50 (by decide) (by decide) (by decide) rfl ?_
  refine AW.iload (pc' := 132) dX11_shift_130 rfl ?_
  refine AW.iload (pc' := 134) dX11_shift_132 rfl ?_
  refine AW.copyL (pc' := 137) dX11_shift_134 mlX11_330 ly_56 ly_56 (by first | assumption | omega | (constructor <;> omega) | (simp only [Int.toNat_natCast]; omega) | exact b2_in _) (by first | assumption | omega | (constructor <;> omega) | (simp only [Int.toNat_natCast]; omega) | exact b2_in _) (by first | assumption | omega | (constructor <;> omega) | (simp only [Int.toNat_natCast]; omega) | exact b2_in _) (by first | assumption | omega | (constructor <;> omega) | (simp only [Int.toNat_natCast]; omega) | exact b2_in _) (by first | assumption | omega | (constructor <;> omega) | (simp only [Int.toNat_natCast]; omega) | exact b2_in _) (by decide) (by decide) ?_
  refine AW.iload (pc' := 139) dX11_shift_137 rfl ?_
  refine AW.iret dX11_shift_139 ?_ ?_
  · rfl
  · rfl
set_option maxRecDepth 100000 in
set_option maxHeartbeats 4000000 in
theorem c_X11_shift {K : KT} {dep : Nat} {h : Hp} {a b c d e : Int} (hd : 2 ≤ dep) (qp : PShe (h 47) (h 49)) (q1 : inI a) (q2 : inI b) (q3 : inI c) (q4 : inI d) (q5 : inI e) : AM K yX11_shift cX11_shift 8 (some .int) dep [vR 0, vI a, vI b, vI c, vI d, vI e] h (some (vI (if ¬ ((0 ≤ a ∧ a < 6) ∧ (0 ≤ c ∧ c < 6)) then -1 else if h 47 a.toNat = 6 ∨ h 47 c.toNat = 6 then -11 else if h 47 a.toNat = 5 ∨ h 47 a.toNat ≠ h 47 c.toNat then -12 else if ¬ ((0 ≤ b ∧ 0 ≤ e ∧ b + e ≤ h 49 a.toNat) ∧ (0 ≤ d ∧ d + e ≤ h 49 c.toNat)) then -13 else e))) (if ((0 ≤ a ∧ a < 6) ∧ (0 ≤ c ∧ c < 6)) ∧ ¬ (h 47 a.toNat = 6 ∨ h 47 c.toNat = 6) ∧ ¬ (h 47 a.toNat = 5 ∨ h 47 a.toNat ≠ h 47 c.toNat) ∧ ((0 ≤ b ∧ 0 ≤ e ∧ b + e ≤ h 49 a.toNat) ∧ (0 ≤ d ∧ d + e ≤ h 49 c.toNat)) then hcpy h (51 + a.toNat) (51 + c.toNat) b.toNat d.toNat e.toNat else h) := by
  refine AM.of (own := RX11) (ls := [some (vR 0), some (vI a), some (vI b), some (vI c), some (vI d), some (vI e), none, none]) rfl (by decide +kernel) (by exact Nat.le_of_ble_eq_true rfl) rfl (fun hO => ?_)
  refine AW.aload_n (pc' := 1) dX11_shift_0 rfl ?_
  refine AW.getR (pc' := 4) dX11_shift_1 ly_0 fX11_81 rfl ?_
  refine AW.iload_n (pc' := 5) dX11_shift_4 rfl ?_
  refine AW.invV1 (pc' := 8) dX11_shift_5 mlX11_111 mX8_has ly_46 rfl (c_X8_has (dep := dep - 1) (by first | assumption | omega | (constructor <;> omega) | (simp only [Int.toNat_natCast]; omega) | exact b2_in _)) ?_
  refine AW.ifb_eq (tgt := 22) (pc' := 11) dX11_shift_8 (fun c8 => ?_) (fun c8 => ?_)
  · refine AW.iconst (pc' := 23) dX11_shift_22 ?_
    refine AW.iret dX11_shift_23 ?_ ?_
    · refine congrArg (fun z : Int => (some (vI z) : Option AV)) ?_
      (repeat' split) <;> first | rfl | omega
    · rw [if_neg (by omega)]
  · refine AW.aload_n (pc' := 12) dX11_shift_11 rfl ?_
    refine AW.getR (pc' := 15) dX11_shift_12 ly_0 fX11_81 rfl ?_
    refine AW.iload_n (pc' := 16) dX11_shift_15 rfl ?_
    refine AW.invV1 (pc' := 19) dX11_shift_16 mlX11_111 mX8_has ly_46 rfl (c_X8_has (dep := dep - 1) (by first | assumption | omega | (constructor <;> omega) | (simp only [Int.toNat_natCast]; omega) | exact b2_in _)) ?_
    refine AW.ifb_ne (tgt := 24) (pc' := 22) dX11_shift_19 (fun c19 => ?_) (fun c19 => ?_)
    · refine AW.aload_n (pc' := 25) dX11_shift_24 rfl ?_
      refine AW.getR (pc' := 28) dX11_shift_25 ly_0 fX11_81 rfl ?_
      refine AW.getR (pc' := 31) dX11_shift_28 ly_46 fX11_115 rfl ?_
      refine AW.iload_n (pc' := 32) dX11_shift_31 rfl ?_
      first | refine AW.ialdN (pc' := 33) dX11_shift_32 ly_47 (by first | assumption | omega | (constructor <;> omega) | (simp only [Int.toNat_natCast]; omega) | exact b2_in _) (by decide) (fun r32 => ?_) | refine AW.iald (pc' := 33) dX11_shift_32 ly_47 (by first | assumption | omega | (constructor <;> omega) | (simp only [Int.toNat_natCast]; omega) | exact b2_in _) (by first | assumption | omega | (constructor <;> omega) | (simp only [Int.toNat_natCast]; omega) | exact b2_in _) (by decide) (fun r32 => ?_)
      refine AW.istore6 (pc' := 35) dX11_shift_33 (by decide) rfl ?_
      refine AW.aload_n (pc' := 36) dX11_shift_35 rfl ?_
      refine AW.getR (pc' := 39) dX11_shift_36 ly_0 fX11_81 rfl ?_
      refine AW.getR (pc' := 42) dX11_shift_39 ly_46 fX11_115 rfl ?_
      refine AW.iload_n (pc' := 43) dX11_shift_42 rfl ?_
      first | refine AW.ialdN (pc' := 44) dX11_shift_43 ly_47 (by first | assumption | omega | (constructor <;> omega) | (simp only [Int.toNat_natCast]; omega) | exact b2_in _) (by decide) (fun r43 => ?_) | refine AW.iald (pc' := 44) dX11_shift_43 ly_47 (by first | assumption | omega | (constructor <;> omega) | (simp only [Int.toNat_natCast]; omega) | exact b2_in _) (by first | assumption | omega | (constructor <;> omega) | (simp only [Int.toNat_natCast]; omega) | exact b2_in _) (by decide) (fun r43 => ?_)
      refine AW.istore7 (pc' := 46) dX11_shift_44 (by decide) rfl ?_
      refine AW.iload (pc' := 48) dX11_shift_46 rfl ?_
      refine AW.bipush (pc' := 50) dX11_shift_48 (by decide) ?_
      refine AW.icmp_eq (tgt := 60) (pc' := 53) dX11_shift_50 (by first | assumption | omega | (constructor <;> omega) | (simp only [Int.toNat_natCast]; omega) | exact b2_in _) (by first | assumption | omega | (constructor <;> omega) | (simp only [Int.toNat_natCast]; omega) | exact b2_in _) (fun c50 => ?_) (fun c50 => ?_)
      · refine AW.bipush (pc' := 62) dX11_shift_60 (by decide) ?_
        refine AW.iret dX11_shift_62 ?_ ?_
        · refine congrArg (fun z : Int => (some (vI z) : Option AV)) ?_
          (repeat' split) <;> first | rfl | omega
        · rw [if_neg (by omega)]
      · refine AW.iload (pc' := 55) dX11_shift_53 rfl ?_
        refine AW.bipush (pc' := 57) dX11_shift_55 (by decide) ?_
        refine AW.icmp_ne (tgt := 63) (pc' := 60) dX11_shift_57 (by first | assumption | omega | (constructor <;> omega) | (simp only [Int.toNat_natCast]; omega) | exact b2_in _) (by first | assumption | omega | (constructor <;> omega) | (simp only [Int.toNat_natCast]; omega) | exact b2_in _) (fun c57 => ?_) (fun c57 => ?_)
        · refine AW.iload (pc' := 65) dX11_shift_63 rfl ?_
          refine AW.iconst (pc' := 66) dX11_shift_65 ?_
          refine AW.icmp_eq (tgt := 76) (pc' := 69) dX11_shift_66 (by first | assumption | omega | (constructor <;> omega) | (simp only [Int.toNat_natCast]; omega) | exact b2_in _) (by first | assumption | omega | (constructor <;> omega) | (simp only [Int.toNat_natCast]; omega) | exact b2_in _) (fun c66 => ?_) (fun c66 => ?_)
          · refine AW.bipush (pc' := 78) dX11_shift_76 (by decide) ?_
            refine AW.iret dX11_shift_78 ?_ ?_
            · refine congrArg (fun z : Int => (some (vI z) : Option AV)) ?_
              (repeat' split) <;> first | rfl | omega
            · rw [if_neg (by omega)]
          · refine AW.iload (pc' := 71) dX11_shift_69 rfl ?_
            refine AW.iload (pc' := 73) dX11_shift_71 rfl ?_
            refine AW.icmp_eq (tgt := 79) (pc' := 76) dX11_shift_73 (by first | assumption | omega | (constructor <;> omega) | (simp only [Int.toNat_natCast]; omega) | exact b2_in _) (by first | assumption | omega | (constructor <;> omega) | (simp only [Int.toNat_natCast]; omega) | exact b2_in _) (fun c73 => ?_) (fun c73 => ?_)
            · refine AW.aload_n (pc' := 80) dX11_shift_79 rfl ?_
              refine AW.getR (pc' := 83) dX11_shift_80 ly_0 fX11_81 rfl ?_
              refine AW.iload_n (pc' := 84) dX11_shift_83 rfl ?_
              refine AW.iload_n (pc' := 85) dX11_shift_84 rfl ?_
              refine AW.iload (pc' := 87) dX11_shift_85 rfl ?_
              refine AW.invV3 (pc' := 90) dX11_shift_87 mlX11_327 mX8_reaches ly_46 rfl (c_X8_reaches (dep := dep - 1) (by first | assumption | omega | (constructor <;> omega) | (simp only [Int.toNat_natCast]; omega) | exact b2_in _) (by first | assumption | omega | (constructor <;> omega) | (simp only [Int.toNat_natCast]; omega) | exact b2_in _) (by first | assumption | omega | (constructor <;> omega) | (simp only [Int.toNat_natCast]; omega) | exact b2_in _)) ?_
              refine AW.ifb_eq (tgt := 108) (pc' := 93) dX11_shift_90 (fun c90 => ?_) (fun c90 => ?_)
              · refine AW.bipush (pc' := 110) dX11_shift_108 (by decide) ?_
                refine AW.iret dX11_shift_110 ?_ ?_
                · refine congrArg (fun z : Int => (some (vI z) : Option AV)) ?_
                  (repeat' split) <;> first | rfl | omega
                · rw [if_neg (by omega)]
              · refine AW.aload_n (pc' := 94) dX11_shift_93 rfl ?_
                refine AW.getR (pc' := 97) dX11_shift_94 ly_0 fX11_81 rfl ?_
                refine AW.iload_n (pc' := 98) dX11_shift_97 rfl ?_
                refine AW.iload (pc' := 100) dX11_shift_98 rfl ?_
                refine AW.iload (pc' := 102) dX11_shift_100 rfl ?_
                refine AW.invV3 (pc' := 105) dX11_shift_102 mlX11_327 mX8_reaches ly_46 rfl (c_X8_reaches (dep := dep - 1) (by first | assumption | omega | (constructor <;> omega) | (simp only [Int.toNat_natCast]; omega) | exact b2_in _) (by first | assumption | omega | (constructor <;> omega) | (simp only [Int.toNat_natCast]; omega) | exact b2_in _) (by first | assumption | omega | (constructor <;> omega) | (simp only [Int.toNat_natCast]; omega) | exact b2_in _)) ?_
                refine AW.ifb_ne (tgt := 111) (pc' := 108) dX11_shift_105 (fun c105 => ?_) (fun c105 => ?_)
                · have ok : ((0 ≤ a ∧ a < 6) ∧ (0 ≤ c ∧ c < 6)) ∧ ¬ (h 47 a.toNat = 6 ∨ h 47 c.toNat = 6) ∧ ¬ (h 47 a.toNat = 5 ∨ h 47 a.toNat ≠ h 47 c.toNat) ∧ ((0 ≤ b ∧ 0 ≤ e ∧ b + e ≤ h 49 a.toNat) ∧ (0 ≤ d ∧ d + e ≤ h 49 c.toNat)) := by omega
                  have pa := qp a.toNat (by omega)
                  have pc := qp c.toNat (by omega)
                  rw [if_pos ok, if_neg (by omega), if_neg (by omega), if_neg (by omega), if_neg (by omega)]
                  have ca : a = 0 ∨ a = 1 ∨ a = 2 ∨ a = 3 ∨ a = 4 ∨ a = 5 := by omega
                  have cc : c = 0 ∨ c = 1 ∨ c = 2 ∨ c = 3 ∨ c = 4 ∨ c = 5 := by omega
                  have zz0 : 0 ≤ b ∧ 0 ≤ d ∧ 0 ≤ e := by omega
                  have zz1 : b + e ≤ 60 := by omega
                  have zz2 : d + e ≤ 60 := by omega
                  clear ok
                  rcases ca with rfl | rfl | rfl | rfl | rfl | rfl
                  · rcases cc with rfl | rfl | rfl | rfl | rfl | rfl
                    · exact tl_X11_shift00 zz0 zz1 zz2 (by omega)
                    · exact tl_X11_shift01 zz0 zz1 zz2 (by omega)
                    · exact tl_X11_shift02 zz0 zz1 zz2 (by omega)
                    · exact tl_X11_shift03 zz0 zz1 zz2 (by omega)
                    · exact tl_X11_shift04 zz0 zz1 zz2 (by omega)
                    · exact tl_X11_shift05 zz0 zz1 zz2 (by omega)
                  · rcases cc with rfl | rfl | rfl | rfl | rfl | rfl
                    · exact tl_X11_shift10 zz0 zz1 zz2 (by omega)
                    · exact tl_X11_shift11 zz0 zz1 zz2 (by omega)
                    · exact tl_X11_shift12 zz0 zz1 zz2 (by omega)
                    · exact tl_X11_shift13 zz0 zz1 zz2 (by omega)
                    · exact tl_X11_shift14 zz0 zz1 zz2 (by omega)
                    · exact tl_X11_shift15 zz0 zz1 zz2 (by omega)
                  · rcases cc with rfl | rfl | rfl | rfl | rfl | rfl
                    · exact tl_X11_shift20 zz0 zz1 zz2 (by omega)
                    · exact tl_X11_shift21 zz0 zz1 zz2 (by omega)
                    · exact tl_X11_shift22 zz0 zz1 zz2 (by omega)
                    · exact tl_X11_shift23 zz0 zz1 zz2 (by omega)
                    · exact tl_X11_shift24 zz0 zz1 zz2 (by omega)
                    · exact tl_X11_shift25 zz0 zz1 zz2 (by omega)
                  · rcases cc with rfl | rfl | rfl | rfl | rfl | rfl
                    · exact tl_X11_shift30 zz0 zz1 zz2 (by omega)
                    · exact tl_X11_shift31 zz0 zz1 zz2 (by omega)
                    · exact tl_X11_shift32 zz0 zz1 zz2 (by omega)
                    · exact tl_X11_shift33 zz0 zz1 zz2 (by omega)
                    · exact tl_X11_shift34 zz0 zz1 zz2 (by omega)
                    · exact tl_X11_shift35 zz0 zz1 zz2 (by omega)
                  · rcases cc with rfl | rfl | rfl | rfl | rfl | rfl
                    · exact tl_X11_shift40 zz0 zz1 zz2 (by omega)
                    · exact tl_X11_shift41 zz0 zz1 zz2 (by omega)
                    · exact tl_X11_shift42 zz0 zz1 zz2 (by omega)
                    · exact tl_X11_shift43 zz0 zz1 zz2 (by omega)
                    · exact tl_X11_shift44 zz0 zz1 zz2 (by omega)
                    · exact tl_X11_shift45 zz0 zz1 zz2 (by omega)
                  · rcases cc with rfl | rfl | rfl | rfl | rfl | rfl
                    · exact tl_X11_shift50 zz0 zz1 zz2 (by omega)
                    · exact tl_X11_shift51 zz0 zz1 zz2 (by omega)
                    · exact tl_X11_shift52 zz0 zz1 zz2 (by omega)
                    · exact tl_X11_shift53 zz0 zz1 zz2 (by omega)
                    · exact tl_X11_shift54 zz0 zz1 zz2 (by omega)
                    · exact tl_X11_shift55 zz0 zz1 zz2 (by omega)
                · refine AW.bipush (pc' := 110) dX11_shift_108 (by decide) ?_
                  refine AW.iret dX11_shift_110 ?_ ?_
                  · refine congrArg (fun z : Int => (some (vI z) : Option AV)) ?_
                    (repeat' split) <;> first | rfl | omega
                  · rw [if_neg (by omega)]
            · refine AW.bipush (pc' := 78) dX11_shift_76 (by decide) ?_
              refine AW.iret dX11_shift_78 ?_ ?_
              · refine congrArg (fun z : Int => (some (vI z) : Option AV)) ?_
                (repeat' split) <;> first | rfl | omega
              · rw [if_neg (by omega)]
        · refine AW.bipush (pc' := 62) dX11_shift_60 (by decide) ?_
          refine AW.iret dX11_shift_62 ?_ ?_
          · refine congrArg (fun z : Int => (some (vI z) : Option AV)) ?_
            (repeat' split) <;> first | rfl | omega
          · rw [if_neg (by omega)]
    · refine AW.iconst (pc' := 23) dX11_shift_22 ?_
      refine AW.iret dX11_shift_23 ?_ ?_
      · refine congrArg (fun z : Int => (some (vI z) : Option AV)) ?_
        (repeat' split) <;> first | rfl | omega
      · rw [if_neg (by omega)]
