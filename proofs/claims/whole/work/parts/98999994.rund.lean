/-! WORK: the reference behind the text -/
section SUB
variable {u : Nat} {p : aP} {LF LH : (Nat → Int32) → Int32}
theorem m_89 (P : pOK p) (hu : 700 ≤ u) {c25 c26 c27 c28 c30 : Int32} {a7 a8 a9 a10 a13 a14 a15 : Nat → Int32} (E : mPit p c25 c26 c27 c28 c30 a7 a8 a9 a10) (L : lawM 0 a13 a14 a15 LF) (L2 : lawM 1 a13 a14 a15 LH) (hc1 : lcong LF) (hc2 : lcong LH) {Q A I : Nat → Nat} {f k : Nat} (w : wfB p Q A I f 0 0 k) (hk : k ≤ 30) {x1 x2 x3 s : Nat → Int32} (PR : PRG 0 k Q A I x1 x2 x3 s) {m : aM} (I0 : mOK p m) {a20 : Nat → Int32} (X : mMine m a20) {W : Nat} (hW : W < 16) (t2 a1 a16 a17 a19 a21 a22 a23 a24 : Nat → Int32) (d0 d2 d3 d4 d6 d7 d8 d43 d44 d45 d46 : Int32) :
    ∃ o', bX11_work_89 u c25 c26 c27 c28 c30 t2 a7 a8 a9 a10 a13 a14 a15 d0 d2 d3 d4 (-1 : Int32) d6 d7 d8 (nI (3 * k)) (nI W) d43 d44 d45 d46 a1 a16 a17 s a19 a20 a21 a22 a23 a24 = some o' ∧ o'.1 = nI (exB LF LH p Q A I f 0 k (m, 0, 0, 0)).2.2.1 ∧ o'.2.1 = d0 ∧ o'.2.2.1 = d2 ∧ o'.2.2.2.2.2.2.2.2.1 = -1 ∧ o'.2.2.2.2.2.2.2.2.2.2.1 = nI (W + 1) ∧ o'.2.2.2.2.2.2.2.2.2.2.2.1 = nI (exB LF LH p Q A I f 0 k (m, 0, 0, 0)).2.2.2 ∧ o'.2.2.2.2.2.2.2.2.2.2.2.2.2.2.2.1 = a1 ∧ mOK p (exB LF LH p Q A I f 0 k (m, 0, 0, 0)).1 ∧ mMine (exB LF LH p Q A I f 0 k (m, 0, 0, 0)).1 o'.2.2.2.2.2.2.2.2.2.2.2.2.2.2.2.2.2.2.2.2.1 ∧ (∀ j, j < 77 → o'.2.2.2.2.2.2.2.2.2.2.2.2.2.2.2.2.2.2.2.2.2.2.1 (77 * W + j) = a20 j) ∧ ∀ j, j < 77 * W → o'.2.2.2.2.2.2.2.2.2.2.2.2.2.2.2.2.2.2.2.2.2.2.1 j = a22 j := by
  obtain ⟨g19, e1, h1, -⟩ := cp_18_19 (u := u) (by omega) s a19 (m := 3 * k) (by omega)
  obtain ⟨Q', A', I', hs, re⟩ := prog_m PR h1
  have w' := wfB_c f 0 0 k re w
  have ex := exB_c (LF := LF) (LH := LH) f 0 0 k re w (m, 0, 0, 0)
  obtain ⟨g22, e2, h2, h3⟩ := m_123 (u := u) (c25 := c25) (c26 := c26) (c27 := c27) (c28 := c28) (c30 := c30) (d0 := d0) (d2 := d2) (d3 := d3) (d4 := d4) (d5 := (-1 : Int32)) (d6 := d6) (d7 := d7) (d8 := (-1 : Int32)) (d41 := nI (3 * k)) (d43 := d43) (d44 := d44) (d45 := d45) (d46 := d46) (t2 := t2) (a7 := a7) (a8 := a8) (a9 := a9) (a10 := a10) (a13 := a13) (a14 := a14) (a15 := a15) (a1 := a1) (a16 := a16) (a17 := a17) (a18 := s) (a19 := g19) (a20 := a20) (a21 := a21) (a22 := a22) (a23 := a23) (a24 := a24) (by omega) hW
  obtain ⟨gt, e3, h4⟩ := m_take (u := u) (by omega) X a21
  obtain ⟨o, e4, k1, k2, k3, k4⟩ := m_runB (u := u) P (by omega) E L L2 hc1 hc2 hs w' hk I0 h4 a16 a17 a23 a24
  obtain ⟨g20, e5, h5, -⟩ := cp_21_20 (u := u) (by omega) o.2.2.2.2.2.1 a20 (m := 77) (by omega)
  rw [ex] at k1 k2 k3 k4
  unfold bX11_work_89 f_X11_result bX11_result_0
  rw [t_fine, z_b, if_neg d_10, z_b, if_pos rfl, e1, z_b]
  dsimp only
  rw [e2, bX11_work_123, if_pos (show (77 : Int32) ≤ nI 77 by decide), e3, z_b, e4, z_b, show f_X11_copies_21_20 u a20 o.2.2.2.2.2.1 (77 : Int32) = _ from e5, z_b, show nI W + (1 : Int32) = nI (W + 1) from nI_1 W]
  exact ⟨_, rfl, k1, rfl, rfl, rfl, rfl, k2, rfl, k3, mMine_c k4 h5, h2, fun j hj => h3 j (Or.inl hj)⟩
end SUB
