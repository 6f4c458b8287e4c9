/-! QUERIES: the way to a cell, the reference -/
section WAM
variable {u : Nat} {S : aT} {h : k_H}
def rR (x : rT) (a b : Nat → Int32) : Prop := ∀ c, c < 48 → a c = nI (x.2.1 c) ∧ b c = nI (x.2.2 c)
theorem mw_barsIn {a8 g : Nat → Int32} {T Bt : Nat → Nat} (A : sA g T) (hB : ∀ c, c < 48 → a8 c = nI (Bt c)) (hT : ∀ c, c < 48 → T c ≤ 3) {c : Nat} (hc : c < 48) : f_X11_barsIn u a8 g (nI c) = some (nI (brl T Bt c)) := by
  have h3 := hT c hc
  unfold f_X11_barsIn bX11_barsIn_0 brl
  rw [z_ki (by omega) (by omega), z_cl (by omega), A c hc]
  by_cases z : T c = 0
  · rw [z, if_pos (show nI 0 = (0 : Int32) from rfl), if_pos rfl, z_ki (by omega) (by omega), hB c hc]
  · rw [if_neg (show ¬ nI (T c) = (0 : Int32) from fun w => z ((nI_eq (b := 0) (by omega) (by omega)).mp w)), if_neg z]
    rfl
theorem m_comes {a8 g : Nat → Int32} {T Bt : Nat → Nat} (A : sA g T) (hB : ∀ c, c < 48 → a8 c = nI (Bt c)) (hT : ∀ c, c < 48 → T c ≤ 3) (h9 : ∀ c, Bt c ≤ 9) {x : rT} {a28 a29 : Nat → Int32} (hr : rR x a28 a29) {c d : Nat} (hc : c < 48) (hd : d < 48) (b1 : x.2.1 c ≤ 1000 ∧ x.2.2 c ≤ 9 * x.2.1 c) (b2 : x.2.1 d ≤ 1000 ∧ x.2.2 d ≤ 9 * x.2.1 d) :
    f_X11_comes u a8 g a28 a29 (nI c) (nI d) = (if x.2.1 c < x.2.1 d + 1 ∨ (x.2.1 d + 1 = x.2.1 c ∧ x.2.2 d + brl T Bt c ≤ x.2.2 c) then some ((0 : Int32), a28, a29) else some ((1 : Int32), upd a28 c (nI (x.2.1 d + 1)), upd a29 c (nI (x.2.2 d + brl T Bt c)))) := by
  obtain ⟨rc1, rc2⟩ := hr c hc
  obtain ⟨rd1, rd2⟩ := hr d hd
  have hb : brl T Bt c ≤ 9 := by have := h9 c; unfold brl; split <;> omega
  unfold f_X11_comes bX11_comes_0 bX11_comes_56
  rw [mw_barsIn A hB hT hc]
  simp only [z_ki hc (show c < 2147483648 by omega), z_ki hd (show d < 2147483648 by omega), z_b, z_cl (show c < 2147483648 by omega), z_cl (show d < 2147483648 by omega), rc1, rc2, rd1, rd2, nI_add]
  rw [show nI (x.2.1 d) + (1 : Int32) = nI (x.2.1 d + 1) from nI_1 _]
  by_cases z : x.2.1 c < x.2.1 d + 1
  · rw [if_pos (nI_lt z (by omega)), if_pos (Or.inl z)]
  · rw [if_neg (nI_nlt (by omega) (by omega))]
    by_cases y : x.2.1 d + 1 = x.2.1 c
    · rw [if_pos (by rw [y])]
      by_cases w : x.2.2 d + brl T Bt c ≤ x.2.2 c
      · rw [if_neg (nI_nlt w (by omega)), if_pos (Or.inr ⟨y, w⟩)]
      · rw [if_pos (nI_lt (by omega) (by omega)), if_neg (by rintro (q | ⟨-, q⟩) <;> omega)]
    · rw [if_neg (fun w => y ((nI_eq (by omega) (by omega)).mp w)), if_neg (by rintro (q | ⟨q, -⟩) <;> omega)]
theorem zB_or (a b : Bool) : zB a ||| zB b = zB (a || b) := by cases a <;> cases b <;> decide
/-- one try -/
theorem m_tr {R : Type} {a8 g : Nat → Int32} {T Bt : Nat → Nat} (A : sA g T) (hB : ∀ c, c < 48 → a8 c = nI (Bt c)) (hT : ∀ c, c < 48 → T c ≤ 3) (h9 : ∀ c, Bt c ≤ 9) {x : rT} {a28 a29 : Nat → Int32} (hr : rR x a28 a29) {c d : Nat} (hc : c < 48) (hd : d < 48) (hb : ∀ c, c < 48 → x.2.1 c ≤ 1000 ∧ x.2.2 c ≤ 9 * x.2.1 c) (K : (Nat → Int32) → (Nat → Int32) → Int32 → Option R) :
    ∃ b28 b29, rR (trW (brl T Bt) true c d x) b28 b29 ∧ (if (1000 : Int32) ≤ a28 d then K a28 a29 (zB x.1) else k_b (f_X11_comes u a8 g a28 a29 (nI c) (nI d)) (fun r => K r.2.1 r.2.2 (zB x.1 ||| r.1))) = K b28 b29 (zB (trW (brl T Bt) true c d x).1) := by
  have b1 := hb c hc
  have b2 := hb d hd
  by_cases z : x.2.1 d < 1000
  · rw [if_neg (show ¬ (1000 : Int32) ≤ a28 d by rw [(hr d hd).1]; exact nI_ge (a := x.2.1 d) (b := 1000) z (by omega)), m_comes A hB hT h9 hr hc hd b1 b2]
    unfold trW
    rw [if_pos (show true = true ∧ x.2.1 d < 1000 from ⟨rfl, z⟩)]
    by_cases y : x.2.1 c < x.2.1 d + 1 ∨ (x.2.1 d + 1 = x.2.1 c ∧ x.2.2 d + brl T Bt c ≤ x.2.2 c)
    · rw [if_pos y, if_pos y, z_b]
      refine ⟨a28, a29, hr, ?_⟩
      rw [show zB x.1 ||| (0 : Int32) = zB x.1 from Int32.or_zero]
    · rw [if_neg y, if_neg y, z_b]
      refine ⟨upd a28 c (nI (x.2.1 d + 1)), upd a29 c (nI (x.2.2 d + brl T Bt c)), fun k hk => ?_, ?_⟩
      rotate_left
      · rw [show zB x.1 ||| (1 : Int32) = zB (x.1 || true) from zB_or x.1 true, Bool.or_true]
      · have hk2 := hr k hk
        simp only [z_upd]
        show (if k = c then _ else _) = nI (upN x.2.1 c (x.2.1 d + 1) k) ∧ (if k = c then _ else _) = nI (upN x.2.2 c (x.2.2 d + brl T Bt c) k)
        unfold upN
        by_cases w : k = c
        · simp only [w, if_true]
          exact ⟨trivial, trivial⟩
        · simp only [w, if_false]
          exact hk2
  · rw [if_pos (show (1000 : Int32) ≤ a28 d by rw [(hr d hd).1]; exact nI_le (a := 1000) (b := x.2.1 d) (by omega) (by omega))]
    unfold trW
    rw [if_neg (fun w => z w.2)]
    exact ⟨a28, a29, hr, rfl⟩
theorem trW_no (B : Nat → Nat) (c d : Nat) (x : rT) : trW B false c d x = x := by
  unfold trW
  rw [if_neg (fun w => absurd w.1 (by decide))]
theorem snd_b {F F1 : Nat → Bool} {B : Nat → Nat} {x : rT} (h : snd F F1 B x) : ∀ c, c < 48 → x.2.1 c ≤ 1000 ∧ x.2.2 c ≤ 9 * x.2.1 c := fun c hc => ⟨(h c hc).1, (h c hc).2.1⟩
section CE
variable {F F1 : Nat → Bool} {W H : Nat} {a7 a8 g : Nat → Int32} {T Bt : Nat → Nat} {d27 : Int32}
theorem m_cell (hW : W ≤ 8) (hH : H ≤ 6) (hF : ∀ c, F1 c = true → F c = true) (A : sA g T) (hB : ∀ c, c < 48 → a8 c = nI (Bt c)) (hT : ∀ c, c < 48 → T c ≤ 3) (h9 : ∀ c, Bt c ≤ 9) {c : Nat} (hc : c < 48) (hf : F c = true) {x : rT} (hs : snd F F1 (brl T Bt) x) {a28 a29 : Nat → Int32} (hr : rR x a28 a29) (k111 : (Nat → Int32) → (Nat → Int32) → Int32 → Int32 → Option ((Nat → Int32) × (Nat → Int32))) (k119 : (Nat → Int32) → (Nat → Int32) → Int32 → Int32 → Int32 → Option ((Nat → Int32) × (Nat → Int32))) (gl : Int32) :
    ∃ b28 b29, rR (cellW F (brl T Bt) W H c x) b28 b29 ∧ bX11_findWays_177 u (nI W) (nI H) d27 a7 a8 g k111 k119 a28 a29 gl (zB x.1) (nI c) (nI (c % 8)) (nI (c / 8)) = k119 b28 b29 gl (zB (cellW F (brl T Bt) W H c x).1) (nI (c + 1)) := by
  have hB9 : ∀ c, brl T Bt c ≤ 9 := fun c => by have := h9 c; unfold brl; split <;> omega
  have ec : nI c + (1 : Int32) = nI (c + 1) := nI_1 c
  have ec8 : nI c + (8 : Int32) = nI (c + 8) := nI_add c 8
  have ex : nI (c % 8) + (1 : Int32) = nI (c % 8 + 1) := nI_1 _
  have ey : nI (c / 8) + (1 : Int32) = nI (c / 8 + 1) := nI_1 _
  unfold cellW
  rw [if_pos hf]
  have o1 : decide (0 < c % 8) = true → c - 1 < 48 ∧ adj c (c - 1) := fun w => by
    have := of_decide_eq_true w
    exact ⟨by omega, Or.inl ⟨by omega, this⟩⟩
  have o2 : decide (c % 8 + 1 < W) = true → c + 1 < 48 ∧ adj c (c + 1) := fun w => by
    have := of_decide_eq_true w
    exact ⟨by omega, Or.inr (Or.inl ⟨rfl, by omega⟩)⟩
  have o3 : decide (0 < c / 8) = true → c - 8 < 48 ∧ adj c (c - 8) := fun w => by
    have := of_decide_eq_true w
    exact ⟨by omega, Or.inr (Or.inr (Or.inl (by omega)))⟩
  have s1 := (tr_all hF hB9 hc hf o1 hs).1
  have s2 := (tr_all hF hB9 hc hf o2 s1).1
  have s3 := (tr_all hF hB9 hc hf o3 s2).1
  -- down
  have D : ∀ (x : rT) a28 a29, rR x a28 a29 → snd F F1 (brl T Bt) x → ∃ b28 b29, rR (trW (brl T Bt) (decide (c / 8 + 1 < H)) c (c + 8) x) b28 b29 ∧ bX11_findWays_275 u (nI W) (nI H) d27 a7 a8 g k111 k119 a28 a29 gl (zB x.1) (nI c) (nI (c / 8)) = k119 b28 b29 gl (zB (trW (brl T Bt) (decide (c / 8 + 1 < H)) c (c + 8) x).1) (nI (c + 1)) := by
    intro x a28 a29 hr hs
    unfold bX11_findWays_275 bX11_findWays_313
    rw [ey, ec, ec8]
    by_cases z : c / 8 + 1 < H
    · rw [if_neg (nI_ge z (by omega)), z_ki (show c + 8 < 48 by omega) (by omega), z_cl (by omega), decide_eq_true z]
      exact m_tr A hB hT h9 hr hc (by omega) (snd_b hs) (fun p q v => k119 p q gl v (nI (c + 1)))
    · rw [if_pos (nI_le (by omega) (by omega)), decide_eq_false z, trW_no]
      exact ⟨a28, a29, hr, rfl⟩
  have U : ∀ (x : rT) a28 a29, rR x a28 a29 → snd F F1 (brl T Bt) x → snd F F1 (brl T Bt) (trW (brl T Bt) (decide (0 < c / 8)) c (c - 8) x) → ∃ b28 b29, rR (trW (brl T Bt) (decide (c / 8 + 1 < H)) c (c + 8) (trW (brl T Bt) (decide (0 < c / 8)) c (c - 8) x)) b28 b29 ∧ bX11_findWays_243 u (nI W) (nI H) d27 a7 a8 g k111 k119 a28 a29 gl (zB x.1) (nI c) (nI (c / 8)) = k119 b28 b29 gl (zB (trW (brl T Bt) (decide (c / 8 + 1 < H)) c (c + 8) (trW (brl T Bt) (decide (0 < c / 8)) c (c - 8) x)).1) (nI (c + 1)) := by
    intro x a28 a29 hr hs hs2
    unfold bX11_findWays_243
    by_cases z : 0 < c / 8
    · rw [if_neg (show ¬ nI (c / 8) ≤ (0 : Int32) from nI_ge (a := 0) z (by omega)), show nI c - (8 : Int32) = nI (c - 8) from z_sub (b := 8) (by omega), z_ki (show c - 8 < 48 by omega) (by omega), z_cl (by omega)]
      rw [decide_eq_true z] at hs2 ⊢
      obtain ⟨b, b', e1, e2⟩ := m_tr (u := u) A hB hT h9 hr hc (show c - 8 < 48 by omega) (snd_b hs) (fun p q v => bX11_findWays_275 u (nI W) (nI H) d27 a7 a8 g k111 k119 p q gl v (nI c) (nI (c / 8)))
      rw [e2]
      exact D _ b b' e1 hs2
    · rw [if_pos (show nI (c / 8) ≤ (0 : Int32) from nI_le (b := 0) (by omega) (by omega))]
      rw [decide_eq_false z, trW_no] at hs2 ⊢
      exact D x a28 a29 hr hs
  have Rt : ∀ (x : rT) a28 a29, rR x a28 a29 → snd F F1 (brl T Bt) x → snd F F1 (brl T Bt) (trW (brl T Bt) (decide (c % 8 + 1 < W)) c (c + 1) x) → snd F F1 (brl T Bt) (trW (brl T Bt) (decide (0 < c / 8)) c (c - 8) (trW (brl T Bt) (decide (c % 8 + 1 < W)) c (c + 1) x)) → ∃ b28 b29, rR (trW (brl T Bt) (decide (c / 8 + 1 < H)) c (c + 8) (trW (brl T Bt) (decide (0 < c / 8)) c (c - 8) (trW (brl T Bt) (decide (c % 8 + 1 < W)) c (c + 1) x))) b28 b29 ∧ bX11_findWays_207 u (nI W) (nI H) d27 a7 a8 g k111 k119 a28 a29 gl (zB x.1) (nI c) (nI (c % 8)) (nI (c / 8)) = k119 b28 b29 gl (zB (trW (brl T Bt) (decide (c / 8 + 1 < H)) c (c + 8) (trW (brl T Bt) (decide (0 < c / 8)) c (c - 8) (trW (brl T Bt) (decide (c % 8 + 1 < W)) c (c + 1) x))).1) (nI (c + 1)) := by
    intro x a28 a29 hr hs hs2 hs3
    unfold bX11_findWays_207
    rw [ex, ec]
    by_cases z : c % 8 + 1 < W
    · rw [if_neg (nI_ge z (by omega)), z_ki (show c + 1 < 48 by omega) (by omega), z_cl (by omega)]
      rw [decide_eq_true z] at hs2 hs3 ⊢
      obtain ⟨b, b', e1, e2⟩ := m_tr (u := u) A hB hT h9 hr hc (show c + 1 < 48 by omega) (snd_b hs) (fun p q v => bX11_findWays_243 u (nI W) (nI H) d27 a7 a8 g k111 k119 p q gl v (nI c) (nI (c / 8)))
      rw [e2]
      exact U _ b b' e1 hs2 hs3
    · rw [if_pos (nI_le (by omega) (by omega))]
      rw [decide_eq_false z, trW_no] at hs2 hs3 ⊢
      exact U x a28 a29 hr hs hs3
  unfold bX11_findWays_177
  by_cases z : 0 < c % 8
  · rw [if_neg (show ¬ nI (c % 8) ≤ (0 : Int32) from nI_ge (a := 0) z (by omega)), show nI c - (1 : Int32) = nI (c - 1) from z_sub (b := 1) (by omega), z_ki (show c - 1 < 48 by omega) (by omega), z_cl (by omega)]
    rw [decide_eq_true z] at s1 s2 s3 ⊢
    obtain ⟨b, b', e1, e2⟩ := m_tr (u := u) A hB hT h9 hr hc (show c - 1 < 48 by omega) (snd_b hs) (fun p q v => bX11_findWays_207 u (nI W) (nI H) d27 a7 a8 g k111 k119 p q gl v (nI c) (nI (c % 8)) (nI (c / 8)))
    rw [e2]
    exact Rt _ b b' e1 s1 s2 s3
  · rw [if_pos (show nI (c % 8) ≤ (0 : Int32) from nI_le (b := 0) (by omega) (by omega))]
    rw [decide_eq_false z, trW_no] at s1 s2 s3 ⊢
    exact Rt x a28 a29 hr hs s2 s3
end CE
theorem brl_9 {p : aP} (P : pOK p) (T : Nat → Nat) : ∀ c, c < 48 → brl T (pB p) c ≤ 9 := fun c hc => by
  have := (P.2.2.2.2.2.1 c hc).2.1
  unfold brl
  split <;> omega
/-- bars cut to the cells there are -/
def bar48 (p : aP) (c : Nat) : Nat := if c < 48 then pB p c else 0
theorem bar48_9 {p : aP} (P : pOK p) (c : Nat) : bar48 p c ≤ 9 := by
  unfold bar48
  by_cases z : c < 48
  · rw [if_pos z]; exact (P.2.2.2.2.2.1 c z).2.1
  · rw [if_neg z]; omega
section LP
variable {p : aP} {m : aM} {a7 a8 g : Nat → Int32} {d27 : Int32} {gl : Nat}
theorem fre_G {p : aP} {m : aM} {gl : Nat} (P : pOK p) : ∀ c, fre p m gl c = true → c % 8 < pW p ∧ c / 8 < pH p := by
  intro c h
  unfold fre inG at h
  simp only [Bool.and_eq_true, decide_eq_true_eq] at h
  exact h.1
theorem fr1_F (p : aP) (m : aM) (gl : Nat) : ∀ c, fr1 p m gl c = true → fre p m gl c = true := by
  intro c h
  unfold fr1 at h
  rw [Bool.and_eq_true] at h
  exact h.1
theorem m_pass (P : pOK p) (I : mOK p m) (A : sA g (aS m)) (E : kbA a7 a8 (pK p) (pB p)) (hg : gl < 48) (hu : 60 ≤ u) {x : rT} (hs : snd (fre p m gl) (fr1 p m gl) (brl (aS m) (bar48 p)) x) (k111 : (Nat → Int32) → (Nat → Int32) → Int32 → Int32 → Option ((Nat → Int32) × (Nat → Int32))) :
    ∀ r k n a28 a29, k + r = 48 → r < n → rR (passW (fre p m gl) (brl (aS m) (bar48 p)) (pW p) (pH p) k x) a28 a29 → ∃ b28 b29, rR (passW (fre p m gl) (brl (aS m) (bar48 p)) (pW p) (pH p) 48 x) b28 b29 ∧ bX11_findWays_119 u (nI (pW p)) (nI (pH p)) d27 a7 a8 g k111 n a28 a29 (nI gl) (zB (passW (fre p m gl) (brl (aS m) (bar48 p)) (pW p) (pH p) k x).1) (nI k) = k111 b28 b29 (nI gl) (zB (passW (fre p m gl) (brl (aS m) (bar48 p)) (pW p) (pH p) 48 x).1) := by
  have h8 := P.1.2
  have h6 := P.2.1.2
  have hbr : ∀ c, brl (aS m) (bar48 p) c ≤ 9 := fun c => by have := bar48_9 P c; unfold brl; split <;> omega
  intro r
  induction r with
  | zero =>
    intro k n a28 a29 hk hn hr
    obtain ⟨n, rfl⟩ := z_suc hn
    obtain rfl : k = 48 := by omega
    rw [bX11_findWays_119, if_pos (show (48 : Int32) ≤ nI 48 by decide)]
    exact ⟨a28, a29, hr, rfl⟩
  | succ r ih =>
    intro k n a28 a29 hk hn hr
    obtain ⟨n, rfl⟩ := z_suc hn
    have hk2 : k < 48 := by omega
    have ek : nI k + (1 : Int32) = nI (k + 1) := nI_1 k
    have ex : nI k - nI k / (8 : Int32) * (8 : Int32) = nI (k % 8) := by
      simp (disch := omega) only [z_lit, z_div, pk_mul, z_sub]
      rw [show k - k / 8 * 8 = k % 8 by omega]
    have ey : nI k / (8 : Int32) = nI (k / 8) := by
      simp (disch := omega) only [z_lit, z_div]
    have hsk := (pass_all h8 h6 (fr1_F p m gl) (fre_G P) hbr hs k (by omega)).1
    have stp : passW (fre p m gl) (brl (aS m) (bar48 p)) (pW p) (pH p) (k + 1) x = cellW (fre p m gl) (brl (aS m) (bar48 p)) (pW p) (pH p) k (passW (fre p m gl) (brl (aS m) (bar48 p)) (pW p) (pH p) k x) := rfl
    have no : fre p m gl k = false → ∃ b28 b29, rR (passW (fre p m gl) (brl (aS m) (bar48 p)) (pW p) (pH p) 48 x) b28 b29 ∧ bX11_findWays_313 u (nI (pW p)) (nI (pH p)) d27 a7 a8 g k111 (bX11_findWays_119 u (nI (pW p)) (nI (pH p)) d27 a7 a8 g k111 n) a28 a29 (nI gl) (zB (passW (fre p m gl) (brl (aS m) (bar48 p)) (pW p) (pH p) k x).1) (nI k) = k111 b28 b29 (nI gl) (zB (passW (fre p m gl) (brl (aS m) (bar48 p)) (pW p) (pH p) 48 x).1) := by
      intro hf
      have e : passW (fre p m gl) (brl (aS m) (bar48 p)) (pW p) (pH p) (k + 1) x = passW (fre p m gl) (brl (aS m) (bar48 p)) (pW p) (pH p) k x := by
        rw [stp]
        unfold cellW
        rw [if_neg (by rw [hf]; decide)]
      unfold bX11_findWays_313
      rw [ek, ← e]
      exact ih (k + 1) n a28 a29 (by omega) (by omega) (by rw [e]; exact hr)
    have yes : fre p m gl k = true → ∃ b28 b29, rR (passW (fre p m gl) (brl (aS m) (bar48 p)) (pW p) (pH p) 48 x) b28 b29 ∧ bX11_findWays_177 u (nI (pW p)) (nI (pH p)) d27 a7 a8 g k111 (bX11_findWays_119 u (nI (pW p)) (nI (pH p)) d27 a7 a8 g k111 n) a28 a29 (nI gl) (zB (passW (fre p m gl) (brl (aS m) (bar48 p)) (pW p) (pH p) k x).1) (nI k) (nI (k % 8)) (nI (k / 8)) = k111 b28 b29 (nI gl) (zB (passW (fre p m gl) (brl (aS m) (bar48 p)) (pW p) (pH p) 48 x).1) := by
      intro hf
      have hB8 : ∀ c, c < 48 → a8 c = nI (bar48 p c) := fun c hc => by unfold bar48; rw [if_pos hc]; exact E.2 c hc
      obtain ⟨b, b', e1, e2⟩ := m_cell (u := u) (d27 := d27) (a7 := a7) h8 h6 (fr1_F p m gl) A hB8 I.1.1 (bar48_9 P) hk2 hf hsk hr k111 (bX11_findWays_119 u (nI (pW p)) (nI (pH p)) d27 a7 a8 g k111 n) (nI gl)
      rw [e2]
      exact ih (k + 1) n b b' (by omega) (by omega) e1
    rw [bX11_findWays_119, if_neg (show ¬ (48 : Int32) ≤ nI k from nI_ge (a := k) (b := 48) hk2 (by omega)), ex, ey, m_isIn (u := u) (by omega) (by omega) (by omega) (by omega), z_b]
    have hgi : (decide (k % 8 < pW p) && decide (k / 8 < pH p)) = inG (pW p) (pH p) k := rfl
    rw [hgi]
    have hfr : fre p m gl k = (inG (pW p) (pH p) k && (!opn (aS m) k && (!(pK p k == 5) || decide (k = gl)))) := rfl
    cases hi : inG (pW p) (pH p) k with
    | false =>
      rw [if_pos (show zB false = (0 : Int32) from rfl)]
      exact no (by rw [hfr, hi]; rfl)
    | true =>
      rw [if_neg (show ¬ zB true = (0 : Int32) from d_10), m_open (u := u) h8 h6 A I.1 (show k % 8 < 9 by omega) (show k / 8 < 9 by omega), z_b]
      have hop : (decide (k % 8 < 8) && decide (k / 8 < 6) && opn (aS m) (8 * (k / 8) + k % 8)) = opn (aS m) k := by
        rw [decide_eq_true (by omega), decide_eq_true (by omega), show 8 * (k / 8) + k % 8 = k by omega]; rfl
      rw [hop]
      cases ho : opn (aS m) k with
      | true =>
        rw [if_neg (show ¬ zB true = (0 : Int32) from d_10)]
        exact no (by rw [hfr, hi, ho]; rfl)
      | false =>
        have hK := (P.2.2.2.2.2.1 k hk2).1
        rw [if_pos (show zB false = (0 : Int32) from rfl), z_ki (by omega) (by omega), z_cl (by omega), E.1 k hk2]
        by_cases z : pK p k = 5
        · rw [z, if_pos (show nI 5 = (5 : Int32) from rfl)]
          by_cases y : k = gl
          · rw [if_pos (by rw [y])]
            exact yes (by rw [hfr, hi, ho, decide_eq_true y, Bool.or_true]; rfl)
          · rw [if_neg (fun w => y ((nI_eq (by omega) (by omega)).mp w))]
            exact no (by rw [hfr, hi, ho, decide_eq_false y, z]; rfl)
        · rw [if_neg (show ¬ nI (pK p k) = (5 : Int32) from fun w => z ((nI_eq (b := 5) (by omega) (by omega)).mp w))]
          exact yes (by
            have : (pK p k == 5) = false := beq_false_of_ne z
            rw [hfr, hi, ho, this]; rfl)
theorem m_loop (P : pOK p) (I : mOK p m) (A : sA g (aS m)) (E : kbA a7 a8 (pK p) (pB p)) (hg : gl < 48) (hu : 100 ≤ u) :
    ∀ r i n a28 a29 (x : rT), i + r = 60 → r + 1 < n → rR x a28 a29 → snd (fre p m gl) (fr1 p m gl) (brl (aS m) (bar48 p)) x → (∀ k, k < 48 → stW (fre p m gl) (fr1 p m gl) k ≤ i + 1 → fin (fre p m gl) (fr1 p m gl) (brl (aS m) (bar48 p)) x k) → ∃ b28 b29 y, bX11_findWays_111 u (nI (pW p)) (nI (pH p)) d27 a7 a8 g n a28 a29 (nI gl) (1 : Int32) = some (b28, b29) ∧ rR y b28 b29 ∧ ∀ k, k < 48 → fin (fre p m gl) (fr1 p m gl) (brl (aS m) (bar48 p)) y k := by
  have h8 := P.1.2
  have h6 := P.2.1.2
  have hbr : ∀ c, brl (aS m) (bar48 p) c ≤ 9 := fun c => by have := bar48_9 P c; unfold brl; split <;> omega
  intro r
  induction r with
  | zero =>
    intro i n a28 a29 x hi hn hr hs hf
    obtain ⟨n, rfl⟩ := z_suc (show 0 < n by omega)
    obtain ⟨n, rfl⟩ := z_suc (show 0 < n by omega)
    have all : ∀ k, k < 48 → fin (fre p m gl) (fr1 p m gl) (brl (aS m) (bar48 p)) (false, x.2) k := by
      intro k hk
      rcases st_le (fre p m gl) (fr1 p m gl) k with q | q
      · exact hf k hk (by omega)
      · have := hs k hk
        refine ⟨?_, fun w => by omega⟩
        show x.2.1 k = _
        omega
    obtain ⟨a1, a2, a3, a4, a5⟩ := pass_all (F := fre p m gl) (F1 := fr1 p m gl) (B := brl (aS m) (bar48 p)) h8 h6 (fr1_F p m gl) (fre_G P) hbr (x := (false, x.2)) hs 48 (Nat.le_refl _)
    have e := a4 all
    obtain ⟨b, b', e1, e2⟩ := m_pass (u := u) (d27 := d27) (a7 := a7) (gl := gl) P I A E hg (by omega) (x := (false, x.2)) hs (bX11_findWays_111 u (nI (pW p)) (nI (pH p)) d27 a7 a8 g (n + 1)) 48 0 u a28 a29 (by omega) (by omega) hr
    rw [e] at e1 e2
    rw [bX11_findWays_111, if_neg d_10, show bX11_findWays_119 u (nI (pW p)) (nI (pH p)) d27 a7 a8 g (bX11_findWays_111 u (nI (pW p)) (nI (pH p)) d27 a7 a8 g (n + 1)) u a28 a29 (nI gl) (0 : Int32) (0 : Int32) = _ from e2]
    refine ⟨b, b', (false, x.2), ?_, e1, all⟩
    rw [bX11_findWays_111]
    exact if_pos rfl
  | succ r ih =>
    intro i n a28 a29 x hi hn hr hs hf
    obtain ⟨n, rfl⟩ := z_suc (show 0 < n by omega)
    obtain ⟨a1, a2, a3, a4, a5⟩ := pass_all (F := fre p m gl) (F1 := fr1 p m gl) (B := brl (aS m) (bar48 p)) h8 h6 (fr1_F p m gl) (fre_G P) hbr (x := (false, x.2)) hs 48 (Nat.le_refl _)
    obtain ⟨b, b', e1, e2⟩ := m_pass (u := u) (d27 := d27) (a7 := a7) (gl := gl) P I A E hg (by omega) (x := (false, x.2)) hs (bX11_findWays_111 u (nI (pW p)) (nI (pH p)) d27 a7 a8 g n) 48 0 u a28 a29 (by omega) (by omega) hr
    rw [bX11_findWays_111, if_neg d_10, show bX11_findWays_119 u (nI (pW p)) (nI (pH p)) d27 a7 a8 g (bX11_findWays_111 u (nI (pW p)) (nI (pH p)) d27 a7 a8 g n) u a28 a29 (nI gl) (0 : Int32) (0 : Int32) = _ from e2]
    cases hfl : (passW (fre p m gl) (brl (aS m) (bar48 p)) (pW p) (pH p) 48 (false, x.2)).1 with
    | false =>
      have e := (a3 hfl).2
      rw [e] at e1 a5
      obtain ⟨n, rfl⟩ := z_suc (show 0 < n by omega)
      refine ⟨b, b', (false, x.2), ?_, e1, ?_⟩
      · rw [bX11_findWays_111]
        exact if_pos rfl
      · have up : ∀ s, ∀ k, k < 48 → stW (fre p m gl) (fr1 p m gl) k ≤ s + 1 → s < 800 → fin (fre p m gl) (fr1 p m gl) (brl (aS m) (bar48 p)) (false, x.2) k := by
          intro s
          induction s with
          | zero => intro k hk h1 _; exact hf k hk (by omega)
          | succ s ihs =>
            intro k hk h1 h2
            by_cases z : stW (fre p m gl) (fr1 p m gl) k ≤ s + 1
            · exact ihs k hk z (by omega)
            · exact a5 s (by omega) (fun k hk h => ihs k hk h (by omega)) k hk (by omega)
        intro k hk
        rcases st_le (fre p m gl) (fr1 p m gl) k with q | q
        · exact up 100 k hk (by omega) (by omega)
        · have := hs k hk
          refine ⟨?_, fun w => by omega⟩
          show x.2.1 k = _
          omega
    | true =>
      refine ih (i + 1) n b b' _ (by omega) (by omega) e1 a1 (fun k hk h => ?_)
      by_cases z : stW (fre p m gl) (fr1 p m gl) k ≤ i + 1
      · exact a2 k hk (hf k hk z)
      · exact a5 i (by omega) hf k hk (by omega)
theorem m_ways (P : pOK p) (I : mOK p m) (A : sA g (aS m)) (Sd : shA d27 (pD p)) (E : kbA a7 a8 (pK p) (pB p)) (hg : gl < 48) (hu : 200 ≤ u) (a28 a29 : Nat → Int32) :
    ∃ b28 b29 y, f_X11_findWays u (nI (pW p)) (nI (pH p)) d27 a7 a8 g a28 a29 (nI gl) = some (b28, b29) ∧ rR y b28 b29 ∧ ∀ k, k < 48 → fin (fre p m gl) (fr1 p m gl) (brl (aS m) (bar48 p)) y k := by
  have h8 := P.1.2
  have h6 := P.2.1.2
  have hbr : ∀ c, brl (aS m) (bar48 p) c ≤ 9 := fun c => by have := bar48_9 P c; unfold brl; split <;> omega
  have key : ∀ r k n a28 a29, k + r = 48 → r < n → (∀ c, c < k → a28 c = nI (if fr1 p m gl c = true then 1 else 1000) ∧ a29 c = nI (if fr1 p m gl c = true then brl (aS m) (bar48 p) c else 0)) → ∃ b28 b29 y, bX11_findWays_2 u (nI (pW p)) (nI (pH p)) d27 a7 a8 g n a28 a29 (nI gl) (nI k) = some (b28, b29) ∧ rR y b28 b29 ∧ ∀ k, k < 48 → fin (fre p m gl) (fr1 p m gl) (brl (aS m) (bar48 p)) y k := by
    intro r
    induction r with
    | zero =>
      intro k n a28 a29 hk hn hI
      obtain ⟨n, rfl⟩ := z_suc hn
      obtain rfl : k = 48 := by omega
      rw [bX11_findWays_2, if_pos (show (48 : Int32) ≤ nI 48 by decide)]
      have st0 : ∀ k, k < 48 → fr1 p m gl k = true → stW (fre p m gl) (fr1 p m gl) k = 1 := fun k hk hf => st_of (fre p m gl) (fr1 p m gl) (fr1_F p m gl) (k := 0) hk hf
      refine m_loop P I A E hg (by omega) 60 0 u a28 a29 (true, fun c => if fr1 p m gl c = true then 1 else 1000, fun c => if fr1 p m gl c = true then brl (aS m) (bar48 p) c else 0) (by omega) (by omega) hI ?_ ?_
      · intro k hk
        show (if fr1 p m gl k = true then 1 else 1000) ≤ 1000 ∧ (if fr1 p m gl k = true then brl (aS m) (bar48 p) k else 0) ≤ 9 * (if fr1 p m gl k = true then 1 else 1000) ∧ stW (fre p m gl) (fr1 p m gl) k ≤ (if fr1 p m gl k = true then 1 else 1000) ∧ ((if fr1 p m gl k = true then 1 else 1000) = stW (fre p m gl) (fr1 p m gl) k → stW (fre p m gl) (fr1 p m gl) k < 1000 → (if fr1 p m gl k = true then brl (aS m) (bar48 p) k else 0) ≤ msW (fre p m gl) (fr1 p m gl) (brl (aS m) (bar48 p)) k)
        have q := st_le (fre p m gl) (fr1 p m gl) k
        have hb := hbr k
        by_cases z : fr1 p m gl k = true
        · have e := st0 k hk z
          have e2 := (st1 (fre p m gl) (fr1 p m gl) (brl (aS m) (bar48 p)) e).2
          rw [if_pos z, if_pos z, e, e2]
          exact ⟨by omega, by omega, by omega, fun _ _ => Nat.le_refl _⟩
        · rw [if_neg z, if_neg z]
          exact ⟨by omega, by omega, by omega, fun a b => by omega⟩
      · intro k hk h1
        have h2 := st_1 (fre p m gl) (fr1 p m gl) k
        have e : stW (fre p m gl) (fr1 p m gl) k = 1 := by omega
        obtain ⟨z, e2⟩ := st1 (fre p m gl) (fr1 p m gl) (brl (aS m) (bar48 p)) e
        refine ⟨?_, fun _ => ?_⟩
        · show (if fr1 p m gl k = true then 1 else 1000) = _
          rw [if_pos z, e]
        · show (if fr1 p m gl k = true then brl (aS m) (bar48 p) k else 0) = _
          rw [if_pos z, e2]
    | succ r ih =>
      intro k n a28 a29 hk hn hI
      obtain ⟨n, rfl⟩ := z_suc hn
      have hk2 : k < 48 := by omega
      have ek : nI k + (1 : Int32) = nI (k + 1) := nI_1 k
      have ex : nI k - nI k / (8 : Int32) * (8 : Int32) = nI (k % 8) := by
        simp (disch := omega) only [z_lit, z_div, pk_mul, z_sub]
        rw [show k - k / 8 * 8 = k % 8 by omega]
      have ey : nI k / (8 : Int32) = nI (k / 8) := by
        simp (disch := omega) only [z_lit, z_div]
      have hfr : fr1 p m gl k = ((inG (pW p) (pH p) k && (!opn (aS m) k && (!(pK p k == 5) || decide (k = gl)))) && (bsd (opn (aS m)) k || (decide (k < 8) && pD p k))) := rfl
      have hB8 : ∀ c, c < 48 → a8 c = nI (bar48 p c) := fun c hc => by unfold bar48; rw [if_pos hc]; exact E.2 c hc
      have mB : f_X11_barsIn u a8 g (nI k) = some (nI (brl (aS m) (bar48 p) k)) := mw_barsIn A hB8 I.1.1 hk2
      have no : fr1 p m gl k = false → ∃ b28 b29 y, bX11_findWays_65 u (nI (pW p)) (nI (pH p)) d27 a7 a8 g (bX11_findWays_2 u (nI (pW p)) (nI (pH p)) d27 a7 a8 g n) a28 a29 (nI gl) (nI k) = some (b28, b29) ∧ rR y b28 b29 ∧ ∀ k, k < 48 → fin (fre p m gl) (fr1 p m gl) (brl (aS m) (bar48 p)) y k := by
        intro hf
        unfold bX11_findWays_65 bX11_findWays_66 bX11_findWays_83 bX11_findWays_102
        rw [if_pos rfl, z_ki hk2 (by omega), if_pos rfl, z_ki hk2 (by omega), z_cl (by omega), ek]
        refine ih (k + 1) n _ _ (by omega) (by omega) (fun c hc => ?_)
        simp only [z_upd]
        by_cases y : c = k
        · rw [if_pos y, if_pos y, y, hf]; exact ⟨rfl, rfl⟩
        · rw [if_neg y, if_neg y]; exact hI c (by omega)
      have yes : fr1 p m gl k = true → ∃ b28 b29 y, bX11_findWays_61 u (nI (pW p)) (nI (pH p)) d27 a7 a8 g (bX11_findWays_2 u (nI (pW p)) (nI (pH p)) d27 a7 a8 g n) a28 a29 (nI gl) (nI k) = some (b28, b29) ∧ rR y b28 b29 ∧ ∀ k, k < 48 → fin (fre p m gl) (fr1 p m gl) (brl (aS m) (bar48 p)) y k := by
        intro hf
        unfold bX11_findWays_61 bX11_findWays_66 bX11_findWays_83 bX11_findWays_102
        rw [if_neg d_10, z_ki hk2 (by omega), if_neg d_10, mB, z_b, z_ki hk2 (by omega), z_cl (by omega), ek]
        refine ih (k + 1) n _ _ (by omega) (by omega) (fun c hc => ?_)
        simp only [z_upd]
        by_cases y : c = k
        · rw [if_pos y, if_pos y, y, hf]; exact ⟨rfl, rfl⟩
        · rw [if_neg y, if_neg y]; exact hI c (by omega)
      rw [bX11_findWays_2, if_neg (show ¬ (48 : Int32) ≤ nI k from nI_ge (a := k) (b := 48) hk2 (by omega)), ex, ey, m_isIn (u := u) (by omega) (by omega) (by omega) (by omega), z_b]
      have hgi : (decide (k % 8 < pW p) && decide (k / 8 < pH p)) = inG (pW p) (pH p) k := rfl
      rw [hgi]
      cases hi : inG (pW p) (pH p) k with
      | false =>
        rw [if_pos (show zB false = (0 : Int32) from rfl)]
        exact no (by rw [hfr, hi]; rfl)
      | true =>
        rw [if_neg (show ¬ zB true = (0 : Int32) from d_10), m_open (u := u) h8 h6 A I.1 (show k % 8 < 9 by omega) (show k / 8 < 9 by omega), z_b]
        have hop : (decide (k % 8 < 8) && decide (k / 8 < 6) && opn (aS m) (8 * (k / 8) + k % 8)) = opn (aS m) k := by
          rw [decide_eq_true (by omega), decide_eq_true (by omega), show 8 * (k / 8) + k % 8 = k by omega]; rfl
        rw [hop]
        cases ho : opn (aS m) k with
        | true =>
          rw [if_neg (show ¬ zB true = (0 : Int32) from d_10)]
          exact no (by rw [hfr, hi, ho]; rfl)
        | false =>
          have hK := (P.2.2.2.2.2.1 k hk2).1
          rw [if_pos (show zB false = (0 : Int32) from rfl), m_hand (u := u) h8 h6 A I.1 Sd hk2, z_b]
          cases hh : (bsd (opn (aS m)) k || (decide (k < 8) && pD p k)) with
          | false =>
            rw [if_pos (show zB false = (0 : Int32) from rfl)]
            exact no (by rw [hfr, hh, Bool.and_false])
          | true =>
            rw [if_neg (show ¬ zB true = (0 : Int32) from d_10), z_ki hk2 (by omega), z_cl (by omega), E.1 k hk2]
            by_cases z : pK p k = 5
            · rw [z, if_pos (show nI 5 = (5 : Int32) from rfl)]
              by_cases y : k = gl
              · rw [if_pos (by rw [y])]
                exact yes (by rw [hfr, hi, ho, hh, decide_eq_true y, Bool.or_true]; rfl)
              · rw [if_neg (fun w => y ((nI_eq (by omega) (by omega)).mp w))]
                exact no (by rw [hfr, hi, ho, decide_eq_false y, z]; rfl)
            · rw [if_neg (show ¬ nI (pK p k) = (5 : Int32) from fun w => z ((nI_eq (b := 5) (by omega) (by omega)).mp w))]
              exact yes (by
                have : (pK p k == 5) = false := beq_false_of_ne z
                rw [hfr, hi, ho, hh, this]; rfl)
  exact key 48 0 u a28 a29 (by omega) (by omega) (fun c hc => absurd hc (Nat.not_lt_zero c))
end LP
theorem n_18 (hu : 700 ≤ u) (R : Rel S h) (a1 a2 a3 : Int32) : N_18 u h a1 a2 a3 := by
  obtain ⟨-, ⟨P, ⟨xw, xh, xa, xs, xc, xo, xk, xp, xor⟩, ⟨mw, mh, ms, mc, mo, mk, mp, mor⟩⟩, -, ⟨I, X, M⟩, -, -, ⟨r, -, -⟩, -, -⟩ := R
  obtain ⟨Mx, hb, hsh, hdg, hpr, hwe, -⟩ := X
  have h8 := P.1.2
  have h6 := P.2.1.2
  unfold N_18
  rw [xw, xh, mw, mh]
  unfold f_X10_way bX10_way_0 f_X11_way bX11_way_0
  rcases d_cell (u := u) h8 h6 a1 a2 (h.2.1 69) (h.2.1 71) with ⟨i, j, hi, hj, rfl, rfl, e1, e2⟩ | ⟨e1, e2⟩
  · obtain ⟨hc, hg, e5⟩ := r_cell P hi hj
    rw [e1, e2, z_b, z_b, if_pos rfl, if_neg d_10]
    rcases d_either (u := u) a3 with ⟨q, e3, e4⟩ | ⟨e3, e4⟩
    · rw [e3, e4, z_b, z_b, x_need1, m_needB1, z_b, z_b, if_pos rfl, if_neg d_10]
      obtain ⟨g, t1, t2⟩ := m_take (u := u) (by omega) M (h.2.1 91)
      rw [t1, z_b, m_open (u := u) h8 h6 t2.1 I.1 (show i < 9 by omega) (show j < 9 by omega), z_b, e5]
      have hop : (decide (i < 8) && decide (j < 6) && opn (aS (rS_M S)) (8 * j + i)) = opn (aS (rS_M S)) (8 * j + i) := by
        rw [decide_eq_true (by omega), decide_eq_true (by omega)]; rfl
      rw [hop]
      have xop : ∀ c, c < 48 → lb (h.2.2.1 26 3 ||| h.2.2.1 26 4) c = opn (aS (rS_M S)) c := fun c hc => lS_get (lS_open Mx.1 Mx.2.1) hc
      have fin_ : ∀ w : Int32, (w = 0 ∨ w = 1) → ∃ b42, f_X7_wayTo u (h.2.2.1 3 5) (h.2.2.1 3 6) (h.2.1 4) (h.2.1 5) (h.2.2.1 26 3) (h.2.2.1 26 4) (h.2.2.1 26 5) (h.2.1 42) (nI (8 * j + i)) w = some (if opn (aS (rS_M S)) (8 * j + i) = true then (0 : Int32) else wyV (fre (rS_P S) (rS_M S) (8 * j + i)) (fr1 (rS_P S) (rS_M S) (8 * j + i)) (brl (aS (rS_M S)) (bar48 (rS_P S))) w (8 * j + i), b42) := by
        intro w hw
        unfold f_X7_wayTo bX7_wayTo_0
        rw [x_open, z_b]
        cases ho : opn (aS (rS_M S)) (8 * j + i) with
        | true =>
          rw [if_neg (show ¬ lg_cmp ((h.2.2.1 26 3 ||| h.2.2.1 26 4) &&& ((1 : Int64) <<< ((nI (8 * j + i)).toInt64 &&& 63))) (0 : Int64) = (0 : Int32) from fun q => by have := (lb_m (m := h.2.2.1 26 3 ||| h.2.2.1 26 4) (show 8 * j + i < 64 by omega)).mp q; rw [xop _ hc, ho] at this; exact absurd this (by decide))]
          exact ⟨_, rfl⟩
        | false =>
          rw [if_pos (show lg_cmp ((h.2.2.1 26 3 ||| h.2.2.1 26 4) &&& ((1 : Int64) <<< ((nI (8 * j + i)).toInt64 &&& 63))) (0 : Int64) = (0 : Int32) from (lb_m (m := h.2.2.1 26 3 ||| h.2.2.1 26 4) (show 8 * j + i < 64 by omega)).mpr (by rw [xop _ hc, ho])), z_b, if_neg (show ¬ false = true by decide)]
          obtain ⟨dr, d1, d2⟩ := x_dry (u := u) xa (a4 := h.2.1 4) (K := pK (rS_P S)) (fun c hc => ⟨(P.2.2.2.2.2.1 c hc).1, xk.1 c hc⟩) (by omega)
          obtain ⟨hr, k1, k2⟩ := xq_hand (u := u) Mx.1 Mx.2.1 xa xs
          rw [d1, z_b, k1, z_b]
          have hF : lS (((h.2.2.1 26 3 ||| h.2.2.1 26 4) ^^^ (-1 : Int64)) &&& (dr ||| ((1 : Int64) <<< ((nI (8 * j + i)).toInt64 &&& 63)))) (fre (rS_P S) (rS_M S) (8 * j + i)) := by
            have h1 := lS_or d2 (lS_bit hc)
            intro k hk
            rw [lb_and, lb_not hk, h1 k hk]
            by_cases y : k < 48
            · rw [xop k y, decide_eq_true y, Bool.true_and, Bool.true_and]
              unfold fre
              show (!opn (aS (rS_M S)) k && ((!(pK (rS_P S) k == 5) && inG (pW (rS_P S)) (pH (rS_P S)) k) || decide (k = 8 * j + i))) = _
              by_cases w : k = 8 * j + i
              · rw [decide_eq_true w, Bool.or_true, Bool.or_true, w, hg]; simp
              · rw [decide_eq_false w, Bool.or_false, Bool.or_false]
                cases opn (aS (rS_M S)) k <;> cases (pK (rS_P S) k == 5) <;> cases inG (pW (rS_P S)) (pH (rS_P S)) k <;> rfl
            · rw [decide_eq_false y]; simp
          have hE : lS (hr &&& (((h.2.2.1 26 3 ||| h.2.2.1 26 4) ^^^ (-1 : Int64)) &&& (dr ||| ((1 : Int64) <<< ((nI (8 * j + i)).toInt64 &&& 63))))) (fr1 (rS_P S) (rS_M S) (8 * j + i)) := by
            refine lS_cong (lS_and k2 hF) (fun c hc => ?_)
            unfold fr1 hnd fre
            cases inG (pW (rS_P S)) (pH (rS_P S)) c <;> cases (bsd (opn (aS (rS_M S))) c || (decide (c < 8) && pD (rS_P S) c)) <;> simp
          have hB8 : ∀ c, c < 48 → h.2.1 5 c = nI (bar48 (rS_P S) c) := fun c hc => by unfold bar48; rw [if_pos hc]; exact xk.2 c hc
          obtain ⟨b0, c1, c2⟩ := x_countBars (u := u) Mx I.1.1 hB8 hE lS_0 (fun c hc _ => rfl) (w := fun _ => 0) (a42 := h.2.1 42) (fun d hd w => absurd w (by decide)) (by omega)
          rw [c1, z_b]
          obtain ⟨b42, g1⟩ := x_way61 (u := u) (al := h.2.2.1 3 5) (sf := h.2.2.1 3 6) (a4 := h.2.1 4) Mx I.1.1 hB8 (bar48_9 P) (fr1_F (rS_P S) (rS_M S) (8 * j + i)) hF hc (by omega) w 48 0 u b0 _ _ (by omega) (by omega) hE hE (fun j hj => absurd hj (Nat.not_lt_zero j)) (fun c hc hl => by
            rw [c2 c hc, if_pos (show fr1 (rS_P S) (rS_M S) (8 * j + i) c = true from hl)]
            have : mx4 (fun _ => false) (fun _ => 0) c = 0 := by unfold mx4; simp
            rw [this, Nat.zero_add]
            rfl)
          exact ⟨b42, g1⟩
      have mon : ∃ o', (if zB (opn (aS (rS_M S)) (8 * j + i)) = (0 : Int32) then k_b (f_X11_findWays u (nI (pW (rS_P S))) (nI (pH (rS_P S))) (h.2.1 70 27) (h.2.1 77) (h.2.1 78) g (h.2.1 98) (h.2.1 99) (nI (8 * j + i))) (fun r58 => k_i 48 (nI (8 * j + i)) ((if (r58.1 ((nI (8 * j + i)).toNatClampNeg)) < (1000 : Int32) then (if a3 = (0 : Int32) then k_i 48 (nI (8 * j + i)) (some ((r58.1 ((nI (8 * j + i)).toNatClampNeg)), (0 : Int32), h.2.1 71, g, r58.1, r58.2)) else k_i 48 (nI (8 * j + i)) (some ((r58.2 ((nI (8 * j + i)).toNatClampNeg)), (0 : Int32), h.2.1 71, g, r58.1, r58.2))) else some ((-1 : Int32), (0 : Int32), h.2.1 71, g, r58.1, r58.2)))) else some ((0 : Int32), (0 : Int32), h.2.1 71, g, h.2.1 98, h.2.1 99)) = some o' ∧ o'.1 = (if opn (aS (rS_M S)) (8 * j + i) = true then (0 : Int32) else wyV (fre (rS_P S) (rS_M S) (8 * j + i)) (fr1 (rS_P S) (rS_M S) (8 * j + i)) (brl (aS (rS_M S)) (bar48 (rS_P S))) a3 (8 * j + i)) ∧ o'.2.1 = 0 ∧ o'.2.2.1 = h.2.1 71 := by
        cases ho : opn (aS (rS_M S)) (8 * j + i) with
        | true =>
          rw [if_neg (show ¬ zB true = (0 : Int32) from d_10), if_pos rfl]
          exact ⟨_, rfl, rfl, rfl, rfl⟩
        | false =>
          obtain ⟨b28, b29, y, w1, w2, w3⟩ := m_ways (u := u) P I t2.1 ms mk hc (by omega) (h.2.1 98) (h.2.1 99)
          have hy := w2 _ hc
          have hf := w3 _ hc
          rw [if_pos (show zB false = (0 : Int32) from rfl), if_neg (show ¬ false = true by decide), w1, z_b, z_ki hc (by omega), z_cl (by omega)]
          simp only [hy.1, hf.1]
          unfold wyV
          have q := st_le (fre (rS_P S) (rS_M S) (8 * j + i)) (fr1 (rS_P S) (rS_M S) (8 * j + i)) (8 * j + i)
          by_cases z : stW (fre (rS_P S) (rS_M S) (8 * j + i)) (fr1 (rS_P S) (rS_M S) (8 * j + i)) (8 * j + i) < 1000
          · rw [if_pos (show nI _ < (1000 : Int32) from nI_lt (b := 1000) z (by omega)), if_pos z]
            by_cases x : a3 = (0 : Int32)
            · rw [if_pos x, if_pos x, z_ki hc (by omega)]
              exact ⟨_, rfl, rfl, rfl, rfl⟩
            · rw [if_neg x, if_neg x, z_ki hc (by omega)]
              simp only [hy.2, hf.2 z]
              exact ⟨_, rfl, rfl, rfl, rfl⟩
          · rw [if_neg (show ¬ nI _ < (1000 : Int32) from nI_nlt (b := 1000) (by omega) (by omega)), if_neg z]
            exact ⟨_, rfl, rfl, rfl, rfl⟩
      obtain ⟨o', m1, m2, m3, m4⟩ := mon
      unfold bX10_way_36
      rcases q with rfl | rfl
      · obtain ⟨b42, x1⟩ := fin_ 0 (Or.inl rfl)
        rw [if_neg (show ¬ (0 : Int32) = 1 by decide), x1, z_b]
        exact ⟨_, o', rfl, m1, Or.inl ⟨rfl, m3, m2.symm⟩, by rw [m4]; exact r⟩
      · obtain ⟨b42, x1⟩ := fin_ 1 (Or.inr rfl)
        rw [if_pos rfl, x1, z_b]
        exact ⟨_, o', rfl, m1, Or.inl ⟨rfl, m3, m2.symm⟩, by rw [m4]; exact r⟩
    · rw [e3, e4, z_b, z_b, x_need0, m_needB0, z_b, z_b, if_neg d_30, if_pos rfl]
      exact ⟨_, _, rfl, rfl, Or.inr (Or.inr ⟨rfl, rfl⟩), r_upd r (by omega)⟩
  · rw [e1, e2, z_b, z_b, if_neg d_10, if_pos rfl]
    exact ⟨_, _, rfl, rfl, Or.inr (Or.inl ⟨rfl, rfl⟩), r_upd r (by omega)⟩
end WAM
