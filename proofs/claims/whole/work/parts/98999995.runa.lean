/-! WORK: the class's part A and the reference, side by side -/
section SUC
variable {u : Nat} {S : aT} {h : k_H}
theorem isFull_ {W : Nat} (hW : W ≤ 16) : f_X4_isFull u (nI W) = some (if W < 16 then (0 : Int32) else 1) := by
  unfold f_X4_isFull bX4_isFull_0
  by_cases z : W < 16
  · rw [if_pos z, if_pos (show nI W < (16 : Int32) from nI_lt (b := 16) z (by omega))]
  · rw [if_neg z, if_neg (show ¬ nI W < (16 : Int32) from nI_nlt (b := 16) (by omega) (by omega))]
/-- behind a fault the reference keeps all -/
theorem m_89F {c25 c26 c27 c28 c30 c4 d0 d2 d3 d6 d7 d8 d41 d42 d43 d44 d45 d46 : Int32} {t2 a7 a8 a9 a10 a13 a14 a15 a1 a16 a17 a18 a19 a20 a21 a22 a23 a24 : Nat → Int32} {f : Nat} (hf : f < 2147483648) : bX11_work_89 u c25 c26 c27 c28 c30 t2 a7 a8 a9 a10 a13 a14 a15 d0 d2 d3 c4 (nI f) d6 d7 d8 d41 d42 d43 d44 d45 d46 a1 a16 a17 a18 a19 a20 a21 a22 a23 a24 = some (d6 - (10 : Int32), d0, d2, d3, c4, nI f, d6, d7, nI f, d41, d42, d43, d44, d45, d46, a1, a16, a17, a18, a19, a20, a21, a22, a23, a24) := by
  unfold bX11_work_89 f_X11_result bX11_result_0
  rw [t_fineF hf, z_b, if_pos rfl, z_b, if_neg (nI_m hf)]
end SUC
