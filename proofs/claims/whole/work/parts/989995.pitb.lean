/-! PIT: seams -/
section PTB
variable {u n : Nat} {b : Nat → Nat} {t1 t2 : Nat → Int32}
theorem x_seamI (c0 c1 c2 : Int32) (t : Nat → Int32) (k : (Nat → Int32) → (Nat → Int32) → Int32 → Int32 → Int32 → Int32 → Int32 → Int32 → Int32 → Int32 → Int32 → Int32 → Int32 → Option ((Nat → Int32) × (Nat → Int32) × Int32 × Int32 × Int32 × Int32)) (q st f pl v6 v7 : Int32) {X Y Wd Hg y : Nat} (hX : X + Wd ≤ 8) (hy : y < 6) : ∀ r i m A1 A2, i + r = Wd → r < m → ∃ B1 B2, bX5_readSeam_82 u c0 c1 c2 t k m A1 A2 q st f pl (nI X) (nI Y) (nI Wd) (nI Hg) v6 v7 (nI y) (nI (X + i)) = k B1 B2 q st f pl (nI X) (nI Y) (nI Wd) (nI Hg) v6 v7 (nI (y + 1)) ∧ ∀ c, c < 48 → (B1 c = if c / 8 = y ∧ X + i ≤ c % 8 ∧ c % 8 < X + Wd then v6 else A1 c) ∧ (B2 c = if c / 8 = y ∧ X + i ≤ c % 8 ∧ c % 8 < X + Wd then v7 else A2 c) := by
  intro r
  induction r with
  | zero =>
    intro i m A1 A2 hi hm
    obtain ⟨m, rfl⟩ := z_suc hm
    rw [bX5_readSeam_82, nI_add, if_pos (nI_le (by omega) (by omega)), show nI y + (1 : Int32) = nI (y + 1) from nI_1 y]
    exact ⟨A1, A2, rfl, fun c hc => ⟨(if_neg (by omega)).symm, (if_neg (by omega)).symm⟩⟩
  | succ r ih =>
    intro i m A1 A2 hi hm
    obtain ⟨m, rfl⟩ := z_suc hm
    rw [bX5_readSeam_82, nI_add, if_neg (nI_ge (by omega) (by omega)), x_lay (by omega) (by omega), z_b, show nI (X + i) + (1 : Int32) = nI (X + (i + 1)) from nI_1 _]
    obtain ⟨B1, B2, e, g⟩ := ih (i + 1) m (upd A1 (8 * y + (X + i)) v6) (upd A2 (8 * y + (X + i)) v7) (by omega) (by omega)
    refine ⟨B1, B2, e, fun c hc => ?_⟩
    obtain ⟨g1, g2⟩ := g c hc
    rw [g1, g2]
    simp only [z_upd]
    by_cases z1 : c / 8 = y ∧ X + (i + 1) ≤ c % 8 ∧ c % 8 < X + Wd
    · rw [if_pos z1, if_pos z1]
      exact ⟨(if_pos (by omega)).symm, (if_pos (by omega)).symm⟩
    · rw [if_neg z1, if_neg z1]
      by_cases z2 : c = 8 * y + (X + i)
      · rw [if_pos z2, if_pos z2]
        exact ⟨(if_pos (by omega)).symm, (if_pos (by omega)).symm⟩
      · rw [if_neg z2, if_neg z2]
        exact ⟨(if_neg (by omega)).symm, (if_neg (by omega)).symm⟩
theorem x_seam (hu : 700 ≤ u) (c0 c1 c2 : Int32) (t : Nat → Int32) (q st f pl v6 v7 : Int32) {X Y Wd Hg : Nat} (hX : X + Wd ≤ 8) (hY : Y + Hg ≤ 6) : ∀ r j m A1 A2, j + r = Hg → r < m → ∃ B1 B2, bX5_readSeam_70 u c0 c1 c2 t m A1 A2 q st f pl (nI X) (nI Y) (nI Wd) (nI Hg) v6 v7 (nI (Y + j)) = some (B1, B2, q, st, f, pl) ∧ ∀ c, c < 48 → (B1 c = if Y + j ≤ c / 8 ∧ c / 8 < Y + Hg ∧ X ≤ c % 8 ∧ c % 8 < X + Wd then v6 else A1 c) ∧ (B2 c = if Y + j ≤ c / 8 ∧ c / 8 < Y + Hg ∧ X ≤ c % 8 ∧ c % 8 < X + Wd then v7 else A2 c) := by
  intro r
  induction r with
  | zero =>
    intro j m A1 A2 hj hm
    obtain ⟨m, rfl⟩ := z_suc hm
    rw [bX5_readSeam_70, nI_add, if_pos (nI_le (by omega) (by omega))]
    exact ⟨A1, A2, rfl, fun c hc => ⟨(if_neg (by omega)).symm, (if_neg (by omega)).symm⟩⟩
  | succ r ih =>
    intro j m A1 A2 hj hm
    obtain ⟨m, rfl⟩ := z_suc hm
    rw [bX5_readSeam_70, nI_add, if_neg (nI_ge (by omega) (by omega))]
    obtain ⟨D1, D2, e0, g0⟩ := x_seamI c0 c1 c2 t (bX5_readSeam_70 u c0 c1 c2 t m) q st f pl v6 v7 (Y := Y) (Hg := Hg) hX (y := Y + j) (by omega) Wd 0 u A1 A2 (by omega) (by omega)
    obtain ⟨B1, B2, e, g⟩ := ih (j + 1) m D1 D2 (by omega) (by omega)
    rw [show bX5_readSeam_82 u c0 c1 c2 t (bX5_readSeam_70 u c0 c1 c2 t m) u A1 A2 q st f pl (nI X) (nI Y) (nI Wd) (nI Hg) v6 v7 (nI (Y + j)) (nI X) = _ from e0]
    refine ⟨B1, B2, e, fun c hc => ?_⟩
    obtain ⟨g1, g2⟩ := g c hc
    obtain ⟨g3, g4⟩ := g0 c hc
    rw [g1, g2, g3, g4]
    by_cases z1 : Y + (j + 1) ≤ c / 8 ∧ c / 8 < Y + Hg ∧ X ≤ c % 8 ∧ c % 8 < X + Wd
    · rw [if_pos z1, if_pos z1]
      exact ⟨(if_pos (by omega)).symm, (if_pos (by omega)).symm⟩
    · rw [if_neg z1, if_neg z1]
      by_cases z2 : c / 8 = Y + j ∧ X + 0 ≤ c % 8 ∧ c % 8 < X + Wd
      · rw [if_pos z2, if_pos z2]
        exact ⟨(if_pos (by omega)).symm, (if_pos (by omega)).symm⟩
      · rw [if_neg z2, if_neg z2]
        exact ⟨(if_neg (by omega)).symm, (if_neg (by omega)).symm⟩
theorem m_seamI (c3 c18 c19 : Int32) (t : Nat → Int32) (k : Int32 → Int32 → Int32 → (Nat → Int32) → (Nat → Int32) → Int32 → Int32 → Int32 → Int32 → Int32 → Int32 → Int32 → Option (Int32 × Int32 × Int32 × (Nat → Int32) × (Nat → Int32))) (q f pl v6 v7 : Int32) {X Y Wd Hg y : Nat} (hX : X + Wd ≤ 8) (hy : y < 6) : ∀ r i m A1 A2, i + r = Wd → r < m → ∃ B1 B2, bX11_readSeam_89 u c3 c18 c19 t k m q f pl A1 A2 (nI X) (nI Y) (nI Wd) (nI Hg) v6 v7 (nI y) (nI (X + i)) = k q f pl B1 B2 (nI X) (nI Y) (nI Wd) (nI Hg) v6 v7 (nI (y + 1)) ∧ ∀ c, c < 48 → (B1 c = if c / 8 = y ∧ X + i ≤ c % 8 ∧ c % 8 < X + Wd then v6 else A1 c) ∧ (B2 c = if c / 8 = y ∧ X + i ≤ c % 8 ∧ c % 8 < X + Wd then v7 else A2 c) := by
  intro r
  induction r with
  | zero =>
    intro i m A1 A2 hi hm
    obtain ⟨m, rfl⟩ := z_suc hm
    rw [bX11_readSeam_89, nI_add, if_pos (nI_le (by omega) (by omega)), show nI y + (1 : Int32) = nI (y + 1) from nI_1 y]
    exact ⟨A1, A2, rfl, fun c hc => ⟨(if_neg (by omega)).symm, (if_neg (by omega)).symm⟩⟩
  | succ r ih =>
    intro i m A1 A2 hi hm
    obtain ⟨m, rfl⟩ := z_suc hm
    rw [bX11_readSeam_89, nI_add, if_neg (nI_ge (by omega) (by omega)), e_8, z_ki (by omega) (by omega), z_ki (by omega) (by omega), z_cl (by omega), show nI (X + i) + (1 : Int32) = nI (X + (i + 1)) from nI_1 _]
    obtain ⟨B1, B2, e, g⟩ := ih (i + 1) m (upd A1 (8 * y + (X + i)) v6) (upd A2 (8 * y + (X + i)) v7) (by omega) (by omega)
    refine ⟨B1, B2, e, fun c hc => ?_⟩
    obtain ⟨g1, g2⟩ := g c hc
    rw [g1, g2]
    simp only [z_upd]
    by_cases z1 : c / 8 = y ∧ X + (i + 1) ≤ c % 8 ∧ c % 8 < X + Wd
    · rw [if_pos z1, if_pos z1]
      exact ⟨(if_pos (by omega)).symm, (if_pos (by omega)).symm⟩
    · rw [if_neg z1, if_neg z1]
      by_cases z2 : c = 8 * y + (X + i)
      · rw [if_pos z2, if_pos z2]
        exact ⟨(if_pos (by omega)).symm, (if_pos (by omega)).symm⟩
      · rw [if_neg z2, if_neg z2]
        exact ⟨(if_neg (by omega)).symm, (if_neg (by omega)).symm⟩
theorem m_seam (hu : 700 ≤ u) (c3 c18 c19 : Int32) (t : Nat → Int32) (q f pl v6 v7 : Int32) {X Y Wd Hg : Nat} (hX : X + Wd ≤ 8) (hY : Y + Hg ≤ 6) : ∀ r j m A1 A2, j + r = Hg → r < m → ∃ B1 B2, bX11_readSeam_77 u c3 c18 c19 t m q f pl A1 A2 (nI X) (nI Y) (nI Wd) (nI Hg) v6 v7 (nI (Y + j)) = some (q, f, pl, B1, B2) ∧ ∀ c, c < 48 → (B1 c = if Y + j ≤ c / 8 ∧ c / 8 < Y + Hg ∧ X ≤ c % 8 ∧ c % 8 < X + Wd then v6 else A1 c) ∧ (B2 c = if Y + j ≤ c / 8 ∧ c / 8 < Y + Hg ∧ X ≤ c % 8 ∧ c % 8 < X + Wd then v7 else A2 c) := by
  intro r
  induction r with
  | zero =>
    intro j m A1 A2 hj hm
    obtain ⟨m, rfl⟩ := z_suc hm
    rw [bX11_readSeam_77, nI_add, if_pos (nI_le (by omega) (by omega))]
    exact ⟨A1, A2, rfl, fun c hc => ⟨(if_neg (by omega)).symm, (if_neg (by omega)).symm⟩⟩
  | succ r ih =>
    intro j m A1 A2 hj hm
    obtain ⟨m, rfl⟩ := z_suc hm
    rw [bX11_readSeam_77, nI_add, if_neg (nI_ge (by omega) (by omega))]
    obtain ⟨D1, D2, e0, g0⟩ := m_seamI c3 c18 c19 t (bX11_readSeam_77 u c3 c18 c19 t m) q f pl v6 v7 (Y := Y) (Hg := Hg) hX (y := Y + j) (by omega) Wd 0 u A1 A2 (by omega) (by omega)
    obtain ⟨B1, B2, e, g⟩ := ih (j + 1) m D1 D2 (by omega) (by omega)
    rw [show bX11_readSeam_89 u c3 c18 c19 t (bX11_readSeam_77 u c3 c18 c19 t m) u q f pl A1 A2 (nI X) (nI Y) (nI Wd) (nI Hg) v6 v7 (nI (Y + j)) (nI X) = _ from e0]
    refine ⟨B1, B2, e, fun c hc => ?_⟩
    obtain ⟨g1, g2⟩ := g c hc
    obtain ⟨g3, g4⟩ := g0 c hc
    rw [g1, g2, g3, g4]
    by_cases z1 : Y + (j + 1) ≤ c / 8 ∧ c / 8 < Y + Hg ∧ X ≤ c % 8 ∧ c % 8 < X + Wd
    · rw [if_pos z1, if_pos z1]
      exact ⟨(if_pos (by omega)).symm, (if_pos (by omega)).symm⟩
    · rw [if_neg z1, if_neg z1]
      by_cases z2 : c / 8 = Y + j ∧ X + 0 ≤ c % 8 ∧ c % 8 < X + Wd
      · rw [if_pos z2, if_pos z2]
        exact ⟨(if_pos (by omega)).symm, (if_pos (by omega)).symm⟩
      · rw [if_neg z2, if_neg z2]
        exact ⟨(if_neg (by omega)).symm, (if_neg (by omega)).symm⟩
variable {p : aP} {s : Nat} {x0 x1 x7 x8 x9 x10 : Int32} {x6 : Int64} {a1 a2 a3 a4 a5 a6 : Nat → Int32} {m18 m19 m20 m21 m22 m23 m24 : Int32} {b3 b4 b5 b6 : Nat → Int32}
theorem upR {R : Prop} [Decidable R] {x y : Int32} {v f : Nat} (g : x = if R then nI v else y) (h : y = nI f) : x = nI (if R then v else f) := by
  rw [g]
  by_cases z : R
  · rw [if_pos z, if_pos z]
  · rw [if_neg z, if_neg z]; exact h
theorem cl_1 (T : TXT b n t1 t2) (hu : 700 ≤ u) (P : pOK p) (hs : s ≤ 4) (X : PX p s x0 x1 x7 x8 x9 x10 x6 a1 a2 a3 a4 a5 a6) (M : PM p s m18 m19 m20 m21 m22 m23 m24 b3 b4 b5 b6) {q : Nat} (hq : q ≤ n) (st pl bk v : Int32) : OUTC n pl (bX5_readClause_22 u (nI n) t1 x0 x1 x7 x8 x9 x10 x6 a1 a2 a3 a4 a5 a6 (nI q) st (0 : Int32) pl v (1 : Int32)) (f_X11_readClause u (nI n) (nI q) (-1 : Int32) bk m18 m19 m20 m21 m22 m23 m24 t2 b3 b4 b5 b6 (nI (ofW 8))) := by
  obtain ⟨rfl, rfl, rfl, rfl, rfl, rfl, X6, XK, XP, XO⟩ := X
  obtain ⟨rfl, rfl, MD, rfl, rfl, rfl, rfl, MK, MP, MO⟩ := M
  rw [bX5_readClause_22, t_good, z_b, if_neg d_10, if_neg (show ¬ (1 : Int32) = 0 by decide), if_pos (show (1 : Int32) = 1 from rfl), f_X11_readClause, bX11_readClause_0, of_7 (by omega), z_b, if_neg (ow_ne ow_8 ow_7 (by omega) (by omega) (by omega)), of_8 (by omega), z_b, if_pos rfl]
  have hw := P.1
  have hh := P.2.1
  have hn := T.1
  rw [f_X5_readSeam, bX5_readSeam_0, f_X11_readSeam, bX11_readSeam_0]
  simp only [kb_assoc]
  have leafF : ∀ (X Y Wd Hg k f q : Nat) (st c6 v7' : Int32) (v6 : Int32), X + Wd ≤ 8 → Y + Hg ≤ 6 → (k = 1 ∨ k = 2) → f ≤ n → q ≤ n → ∀ at' : Int32, ∀ v1 v2 v3 v4 v5 v6' : Int32, OUTC n pl (k_b (bX5_readSeam_70 u (nI (pW p)) (nI (pH p)) (nI n) t1 u a1 a2 (nI q) st (nI k) (nI f) (nI X) (nI Y) (nI Wd) (nI Hg) v6 v7' (nI Y)) (fun r83 => some (nI (pW p), nI (pH p), nI s, nI (pC p), nI (pSt p), nI (pO p), x6, r83.1, r83.2.1, a3, a4, a5, a6, r83.2.2.1, r83.2.2.2.1, r83.2.2.2.2.1, r83.2.2.2.2.2)))
      (k_b (f_X11_fine u (nI f)) (fun r67 => k_b (if r67 = (0 : Int32) then some (at', nI f, nI k, b3, b4) else bX11_readSeam_77 u (nI n) (nI (pW p)) (nI (pH p)) t2 u at' (nI f) (nI k) b3 b4 v1 v2 v3 v4 v5 v6' v2) (fun r44 => some (r44.1, r44.2.1, r44.2.2.1, nI (pW p), nI (pH p), m20, nI s, nI (pC p), nI (pSt p), nI (pO p), r44.2.2.2.1, r44.2.2.2.2, b5, b6)))) := by
    intro X Y Wd Hg k f q st c6 v7 v6 hX hY hk hf hq at' v1 v2 v3 v4 v5 v6'
    obtain ⟨B1, B2, e, -⟩ := x_seam hu (nI (pW p)) (nI (pH p)) (nI n) t1 (nI q) st (nI k) (nI f) v6 v7 hX hY Hg 0 u a1 a2 (by omega) (by omega)
    rw [show bX5_readSeam_70 u (nI (pW p)) (nI (pH p)) (nI n) t1 u a1 a2 (nI q) st (nI k) (nI f) (nI X) (nI Y) (nI Wd) (nI Hg) v6 v7 (nI Y) = _ from e, z_b, t_fineF (show f < 2147483648 by omega), z_b, if_pos rfl, z_b]
    exact ⟨_, _, rfl, rfl, Or.inr ⟨k, f, q, pH p, by omega, by omega, hf, hq, P.2.1.2, rfl, rfl, rfl, rfl, rfl, rfl⟩⟩
  refine nb (P := OUTC n pl) (lo := 0) (hi := pW p - 1) T hu hq rfl (z_sub (b := 1) (by omega)) (by omega) (by omega) (fun w1 q1 ka1 kb1 kc1 kd1 => ?_) (fun k f q q' hk hf hq => ?_)
  · refine nb (P := OUTC n pl) (lo := 0) (hi := pH p - 1) T hu kd1 rfl (z_sub (b := 1) (by omega)) (by omega) (by omega) (fun w2 q2 ka2 kb2 kc2 kd2 => ?_) (fun k f q q' hk hf hq => ?_)
    · refine nb (P := OUTC n pl) (lo := 1) (hi := pW p - w1) T hu kd2 rfl (z_sub (by omega)) (by omega) (by omega) (fun w3 q3 ka3 kb3 kc3 kd3 => ?_) (fun k f q q' hk hf hq => ?_)
      · refine nb (P := OUTC n pl) (lo := 1) (hi := pH p - w2) T hu kd3 rfl (z_sub (by omega)) (by omega) (by omega) (fun w4 q4 ka4 kb4 kc4 kd4 => ?_) (fun k f q q' hk hf hq => ?_)
        · refine nb (P := OUTC n pl) (lo := 1) (hi := 4) T hu kd4 rfl rfl (by omega) (by omega) (fun w5 q5 ka5 kb5 kc5 kd5 => ?_) (fun k f q q' hk hf hq => ?_)
          · refine nb (P := OUTC n pl) (lo := 1) (hi := 9) T hu kd5 rfl rfl (by omega) (by omega) (fun w6 q6 ka6 kb6 kc6 kd6 => ?_) (fun k f q q' hk hf hq => ?_)
            · obtain ⟨B1, B2, e, g⟩ := x_seam hu (nI (pW p)) (nI (pH p)) (nI n) t1 (nI q6) (nI (sk b n q5)) (0 : Int32) pl (nI w5) (nI w6) (X := w1) (Y := w2) (Wd := w3) (Hg := w4) (by omega) (by omega) w4 0 u a1 a2 (by omega) (by omega)
              obtain ⟨C1, C2, e2, g2⟩ := m_seam hu (nI n) (nI (pW p)) (nI (pH p)) t2 (nI q6) (-1 : Int32) bk (nI w5) (nI w6) (X := w1) (Y := w2) (Wd := w3) (Hg := w4) (by omega) (by omega) w4 0 u b3 b4 (by omega) (by omega)
              dsimp only
              rw [show bX5_readSeam_70 u (nI (pW p)) (nI (pH p)) (nI n) t1 u a1 a2 (nI q6) (nI (sk b n q5)) (0 : Int32) pl (nI w1) (nI w2) (nI w3) (nI w4) (nI w5) (nI w6) (nI w2) = _ from e, z_b, t_fine, z_b, if_neg d_10, show bX11_readSeam_77 u (nI n) (nI (pW p)) (nI (pH p)) t2 u (nI q6) (-1 : Int32) bk b3 b4 (nI w1) (nI w2) (nI w3) (nI w4) (nI w5) (nI w6) (nI w2) = _ from e2, z_b]
              exact ⟨_, _, rfl, rfl, Or.inl ⟨(pW p, pH p, pO p, pC p, pSt p, (fun c => if w2 ≤ c / 8 ∧ c / 8 < w2 + w4 ∧ w1 ≤ c % 8 ∧ c % 8 < w1 + w3 then w5 else pK p c), (fun c => if w2 ≤ c / 8 ∧ c / 8 < w2 + w4 ∧ w1 ≤ c % 8 ∧ c % 8 < w1 + w3 then w6 else pB p c), pP p, pT p, pZ p, pN p, pD p), s, q6, ⟨P.1, P.2.1, P.2.2.1, P.2.2.2.1, P.2.2.2.2.1, fun c hc => by
            show (if w2 ≤ c / 8 ∧ c / 8 < w2 + w4 ∧ w1 ≤ c % 8 ∧ c % 8 < w1 + w3 then w5 else pK p c) ≤ 5 ∧ (if w2 ≤ c / 8 ∧ c / 8 < w2 + w4 ∧ w1 ≤ c % 8 ∧ c % 8 < w1 + w3 then w6 else pB p c) ≤ 9 ∧ (0 < (if w2 ≤ c / 8 ∧ c / 8 < w2 + w4 ∧ w1 ≤ c % 8 ∧ c % 8 < w1 + w3 then w6 else pB p c) → 1 ≤ (if w2 ≤ c / 8 ∧ c / 8 < w2 + w4 ∧ w1 ≤ c % 8 ∧ c % 8 < w1 + w3 then w5 else pK p c) ∧ (if w2 ≤ c / 8 ∧ c / 8 < w2 + w4 ∧ w1 ≤ c % 8 ∧ c % 8 < w1 + w3 then w5 else pK p c) ≤ 4) ∧ (inG (pW p) (pH p) c = false → (if w2 ≤ c / 8 ∧ c / 8 < w2 + w4 ∧ w1 ≤ c % 8 ∧ c % 8 < w1 + w3 then w5 else pK p c) = 0 ∧ (if w2 ≤ c / 8 ∧ c / 8 < w2 + w4 ∧ w1 ≤ c % 8 ∧ c % 8 < w1 + w3 then w6 else pB p c) = 0)
            by_cases y : w2 ≤ c / 8 ∧ c / 8 < w2 + w4 ∧ w1 ≤ c % 8 ∧ c % 8 < w1 + w3
            · simp only [if_pos y]
              refine ⟨by omega, by omega, fun _ => ⟨by omega, by omega⟩, fun q => ?_⟩
              unfold inG at q
              rw [decide_eq_true (show c % 8 < pW p by omega), decide_eq_true (show c / 8 < pH p by omega)] at q
              cases q
            · simp only [if_neg y]
              exact P.2.2.2.2.2.1 c hc, P.2.2.2.2.2.2⟩, hs, by assumption, ⟨rfl, rfl, rfl, rfl, rfl, rfl, X6, ⟨fun c hc => upR (g c hc).1 (XK.1 c hc), fun c hc => upR (g c hc).2 (XK.2 c hc)⟩, XP, XO⟩, ⟨rfl, rfl, MD, rfl, rfl, rfl, rfl, ⟨fun c hc => upR (g2 c hc).1 (MK.1 c hc), fun c hc => upR (g2 c hc).2 (MK.2 c hc)⟩, MP, MO⟩, rfl, rfl, rfl, rfl, rfl⟩⟩
            · exact leafF w1 w2 w3 w4 k f q _ 0 _ _ (by omega) (by omega) hk hf hq _ _ _ _ _ _ _
          · refine nbF (P := OUTC n pl) T hu hq (kf_1 hk) (by omega) (fun q st hq => ?_)
            exact leafF w1 w2 w3 w4 k f q _ 0 _ _ (by omega) (by omega) hk hf hq _ _ _ _ _ _ _
        · refine nbF (P := OUTC n pl) T hu hq (kf_1 hk) (by omega) (fun q st hq => ?_)
          refine nbF (P := OUTC n pl) T hu hq (kf_1 hk) (by omega) (fun q st hq => ?_)
          exact leafF w1 w2 w3 1 k f q _ 0 _ _ (by omega) (by omega) hk hf hq _ _ _ _ _ _ _
      · refine nbF (P := OUTC n pl) T hu hq (kf_1 hk) (by omega) (fun q st hq => ?_)
        refine nbF (P := OUTC n pl) T hu hq (kf_1 hk) (by omega) (fun q st hq => ?_)
        refine nbF (P := OUTC n pl) T hu hq (kf_1 hk) (by omega) (fun q st hq => ?_)
        exact leafF w1 w2 1 1 k f q _ 0 _ _ (by omega) (by omega) hk hf hq _ _ _ _ _ _ _
    · refine nbF (P := OUTC n pl) T hu hq (kf_1 hk) (by omega) (fun q st hq => ?_)
      refine nbF (P := OUTC n pl) T hu hq (kf_1 hk) (by omega) (fun q st hq => ?_)
      refine nbF (P := OUTC n pl) T hu hq (kf_1 hk) (by omega) (fun q st hq => ?_)
      refine nbF (P := OUTC n pl) T hu hq (kf_1 hk) (by omega) (fun q st hq => ?_)
      exact leafF w1 0 1 1 k f q _ 0 _ _ (by omega) (by omega) hk hf hq _ _ _ _ _ _ _
  · refine nbF (P := OUTC n pl) T hu hq (kf_1 hk) (by omega) (fun q st hq => ?_)
    refine nbF (P := OUTC n pl) T hu hq (kf_1 hk) (by omega) (fun q st hq => ?_)
    refine nbF (P := OUTC n pl) T hu hq (kf_1 hk) (by omega) (fun q st hq => ?_)
    refine nbF (P := OUTC n pl) T hu hq (kf_1 hk) (by omega) (fun q st hq => ?_)
    refine nbF (P := OUTC n pl) T hu hq (kf_1 hk) (by omega) (fun q st hq => ?_)
    exact leafF 0 0 1 1 k f q _ 0 _ _ (by omega) (by omega) hk hf hq _ _ _ _ _ _ _
end PTB
