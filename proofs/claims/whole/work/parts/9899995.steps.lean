/-! WORK: a step read on both sides -/
section STP
variable {u n : Nat} {b : Nat → Nat} {t1 t2 : Nat → Int32} {p : aP} {gx : (Int32 → (Nat → Int32) → (Nat → Int32) → (Nat → Int32) → Int32 → Int32 → Int32 → Int32 → Int32 → (Nat → Int32) → Int32 → Int32 → Int32 → Option (Int32 × (Nat → Int32) × (Nat → Int32) × (Nat → Int32) × Int32 × Int32 × Int32 × Int32))} {gm : (Int32 → Int32 → Int32 → Int32 → Int32 → Int32 → Int32 → Int32 → (Nat → Int32) → (Nat → Int32) → Option (Int32 × Int32 × Int32 × Int32 × Int32 × (Nat → Int32)))}
abbrev sXo : Type := Int32 × (Nat → Int32) × (Nat → Int32) × (Nat → Int32) × Int32 × Int32 × Int32 × Int32
abbrev sMo : Type := Int32 × Int32 × Int32 × Int32 × Int32 × (Nat → Int32)
def PRG (lo hi : Nat) (Q A I : Nat → Nat) (x1 x2 x3 s : Nat → Int32) : Prop := ∀ j, lo ≤ j → j < hi → Q j ≤ 5 ∧ x1 j = nI (Q j) ∧ s (3 * j) = nI (Q j) ∧ (Q j ≤ 1 → x2 j = nI (A j) ∧ s (3 * j + 1) = nI (A j)) ∧ (Q j = 4 → x2 j = nI (A j) ∧ s (3 * j + 1) = nI (A j) ∧ x3 j = nI (I j) ∧ s (3 * j + 2) = nI (I j)) ∧ (Q j = 5 → x2 j = nI (A j) ∧ s (3 * j + 1) = nI (A j) ∧ x3 j = nI (I j) ∧ s (3 * j + 2) = nI (3 * (j + 1 + I j)))
def KEPT (k : Nat) (x1 x2 x3 s y1 y2 y3 t : Nat → Int32) : Prop := (∀ j, j < k → y1 j = x1 j ∧ y2 j = x2 j ∧ y3 j = x3 j) ∧ ∀ j, j < 3 * k → t j = s j
def SG (n : Nat) (pl : Int32) (p : aP) (e k : Nat) (x1 x2 x3 s : Nat → Int32) (o : sXo) (o' : sMo) : Prop := ∃ (k' q : Nat) (Q A I : Nat → Nat) (f : Nat), k < k' ∧ 5 * k' ≤ q + 1 ∧ q ≤ n ∧ KEPT k x1 x2 x3 s o.2.1 o.2.2.1 o.2.2.2.1 o'.2.2.2.2.2 ∧ PRG k k' Q A I o.2.1 o.2.2.1 o.2.2.2.1 o'.2.2.2.2.2 ∧ wfB p Q A I f e k k' ∧ o.1 = nI k' ∧ o.2.2.2.2.1 = nI q ∧ o.2.2.2.2.2.2.1 = 0 ∧ o.2.2.2.2.2.2.2 = pl ∧ o'.1 = nI q ∧ o'.2.1 = -1 ∧ o'.2.2.2.1 = nI e ∧ o'.2.2.2.2.1 = nI (3 * k')
def SF (n : Nat) (o : sXo) (o' : sMo) : Prop := ∃ kd f q : Nat, 1 ≤ kd ∧ kd ≤ 4 ∧ f ≤ n ∧ q ≤ n ∧ o.2.2.2.2.1 = nI q ∧ o.2.2.2.2.2.2.1 = nI kd ∧ o.2.2.2.2.2.2.2 = nI f ∧ o'.2.1 = nI f ∧ o'.2.2.1 = nI kd
def SO (u n : Nat) (t2 : Nat → Int32) (gm : (Int32 → Int32 → Int32 → Int32 → Int32 → Int32 → Int32 → Int32 → (Nat → Int32) → (Nat → Int32) → Option (Int32 × Int32 × Int32 × Int32 × Int32 × (Nat → Int32)))) (pl : Int32) (p : aP) (e k : Nat) (x1 x2 x3 s : Nat → Int32) (X : Option sXo) (M : Option sMo) : Prop := ∃ o o', X = some o ∧ M = bX11_readStep_276 u gm (nI n) (nI (pW p)) (nI (pH p)) t2 o'.1 o'.2.1 o'.2.2.1 o'.2.2.2.1 o'.2.2.2.2.1 o'.2.2.2.2.2 ∧ (SG n pl p e k x1 x2 x3 s o o' ∨ SF n o o')
/-- the loop one level deeper -/
def LOOPH (u n : Nat) (b : Nat → Nat) (t1 t2 : Nat → Int32) (p : aP) (pl : Int32) (gx : (Int32 → (Nat → Int32) → (Nat → Int32) → (Nat → Int32) → Int32 → Int32 → Int32 → Int32 → Int32 → (Nat → Int32) → Int32 → Int32 → Int32 → Option (Int32 × (Nat → Int32) × (Nat → Int32) × (Nat → Int32) × Int32 × Int32 × Int32 × Int32))) (gm : (Int32 → Int32 → Int32 → Int32 → Int32 → Int32 → Int32 → Int32 → (Nat → Int32) → (Nat → Int32) → Option (Int32 × Int32 × Int32 × Int32 × Int32 × (Nat → Int32)))) (e : Nat) : Prop := ∀ (k q : Nat) (st bk : Int32) (x1 x2 x3 s : Nat → Int32) (v3 : Int32), q ≤ n → 5 * k ≤ q → ∃ (o : sXo) (o' : sMo), gx (nI k) x1 x2 x3 (nI n) (nI q) st (0 : Int32) pl t1 (nI (pW p)) (nI (pH p)) (nI e) = some o ∧ bX11_readStep_206 u gm (nI n) (nI (pW p)) (nI (pH p)) t2 u (nI q) (-1 : Int32) bk (nI e) (nI (3 * k)) s v3 = bX11_readStep_229 u gm (nI n) (nI (pW p)) (nI (pH p)) t2 o'.1 o'.2.1 o'.2.2.1 o'.2.2.2.1 o'.2.2.2.2.1 o'.2.2.2.2.2 v3 ∧
  ((∃ (k' q' : Nat) (Q A I : Nat → Nat) (f : Nat), k ≤ k' ∧ 5 * k' ≤ q' ∧ atC b n q' 93 = true ∧ sk b n q' = q' ∧ KEPT k x1 x2 x3 s o.2.1 o.2.2.1 o.2.2.2.1 o'.2.2.2.2.2 ∧ PRG k k' Q A I o.2.1 o.2.2.1 o.2.2.2.1 o'.2.2.2.2.2 ∧ wfB p Q A I f e k k' ∧ o.1 = nI k' ∧ o.2.2.2.2.1 = nI q' ∧ o.2.2.2.2.2.2.1 = 0 ∧ o.2.2.2.2.2.2.2 = pl ∧ o'.1 = nI q' ∧ o'.2.1 = -1 ∧ o'.2.2.2.1 = nI e ∧ o'.2.2.2.2.1 = nI (3 * k')) ∨
   (o.2.2.2.2.1 = nI n ∧ o.2.2.2.2.2.2.1 = 0 ∧ o'.2.1 = nI n ∧ o'.2.2.1 = 1 ∧ o.2.2.2.2.2.2.2 = pl) ∨ SF n o o')
def LOOPF (n : Nat) (t1 : Nat → Int32) (p : aP) (gx : (Int32 → (Nat → Int32) → (Nat → Int32) → (Nat → Int32) → Int32 → Int32 → Int32 → Int32 → Int32 → (Nat → Int32) → Int32 → Int32 → Int32 → Option (Int32 × (Nat → Int32) × (Nat → Int32) × (Nat → Int32) × Int32 × Int32 × Int32 × Int32))) (e : Nat) : Prop := ∀ (q : Nat) (c st f pl : Int32) (x1 x2 x3 : Nat → Int32), q ≤ n → ¬ f = 0 → ∃ (q' : Nat) (o : sXo), q' ≤ n ∧ gx c x1 x2 x3 (nI n) (nI q) st f pl t1 (nI (pW p)) (nI (pH p)) (nI e) = some o ∧ o.2.2.2.2.1 = nI q' ∧ o.2.2.2.2.2.2.1 = f ∧ o.2.2.2.2.2.2.2 = pl
theorem wfB_id {Q A I : Nat → Nat} (d lo : Nat) : ∀ f, wfB p Q A I f d lo lo
  | 0 => rfl
  | f + 1 => Or.inl rfl
theorem wfB_le {Q A I : Nat → Nat} : ∀ (f d lo hi : Nat), wfB p Q A I f d lo hi → lo ≤ hi
  | 0, d, lo, hi, h => Nat.le_of_eq h
  | f + 1, d, lo, hi, h => by
    rcases h with h | ⟨h, -⟩
    · exact Nat.le_of_eq h
    · exact Nat.le_of_lt h
theorem wfB_up {Q A I : Nat → Nat} : ∀ (f d lo hi : Nat), wfB p Q A I f d lo hi → wfB p Q A I (f + 1) d lo hi
  | 0, d, lo, hi, h => Or.inl h
  | f + 1, d, lo, hi, h => by
    rcases h with h | ⟨h0, ⟨h1, h2, h3, h4, h5, h6⟩ | ⟨h1, h2⟩⟩
    · exact Or.inl h
    · exact Or.inr ⟨h0, Or.inl ⟨h1, h2, h3, h4, wfB_up f _ _ _ h5, wfB_up f _ _ _ h6⟩⟩
    · exact Or.inr ⟨h0, Or.inr ⟨h1, wfB_up f _ _ _ h2⟩⟩
theorem wfB_ups {Q A I : Nat → Nat} (d lo hi f : Nat) (h : wfB p Q A I f d lo hi) : ∀ g, wfB p Q A I (f + g) d lo hi
  | 0 => h
  | g + 1 => wfB_up _ _ _ _ (wfB_ups d lo hi f h g)
theorem wfB_app {Q A I : Nat → Nat} (g : Nat) : ∀ (f d lo mid hi : Nat), wfB p Q A I f d lo mid → wfB p Q A I g d mid hi → wfB p Q A I (f + g) d lo hi
  | 0, d, lo, mid, hi, h, k => by
    have e : lo = mid := h
    rw [e, Nat.zero_add]
    exact k
  | f + 1, d, lo, mid, hi, h, k => by
    rw [show f + 1 + g = (f + g) + 1 by omega]
    have hm := wfB_le g _ _ _ k
    rcases h with h | ⟨h0, ⟨h1, h2, h3, h4, h5, h6⟩ | ⟨h1, h2⟩⟩
    · rw [h]
      have := wfB_ups d mid hi g k (f + 1)
      rw [show g + (f + 1) = f + g + 1 by omega] at this
      exact this
    · exact Or.inr ⟨by omega, Or.inl ⟨h1, h2, h3, by omega, wfB_ups _ _ _ f h5 g, wfB_app g f d _ mid hi h6 k⟩⟩
    · exact Or.inr ⟨by omega, Or.inr ⟨h1, wfB_app g f d _ mid hi h2 k⟩⟩
theorem stepT_c {q a c a' c' : Nat} (h : stepT p q a c) (h1 : q ≤ 1 → a' = a) (h4 : q = 4 → a' = a ∧ c' = c) : stepT p q a' c' := by
  obtain ⟨g1, g2, g3⟩ := h
  refine ⟨g1, fun hq => by rw [h1 hq]; exact g2 hq, fun hq => by rw [(h4 hq).1, (h4 hq).2]; exact g3 hq⟩
/-- what of a program counts -/
def RE (lo hi : Nat) (Q A I Q' A' I' : Nat → Nat) : Prop := ∀ j, lo ≤ j → j < hi → Q' j = Q j ∧ (Q j ≤ 1 → A' j = A j) ∧ (Q j = 4 ∨ Q j = 5 → A' j = A j ∧ I' j = I j)
theorem wfB_c {Q A I Q' A' I' : Nat → Nat} : ∀ (f d lo hi : Nat), RE lo hi Q A I Q' A' I' → wfB p Q A I f d lo hi → wfB p Q' A' I' f d lo hi
  | 0, d, lo, hi, _, h => h
  | f + 1, d, lo, hi, r, h => by
    rcases h with h | ⟨h0, ⟨h1, h2, h3, h4, h5, h6⟩ | ⟨h1, h2⟩⟩
    · exact Or.inl h
    · obtain ⟨r1, r2, r3⟩ := r lo (Nat.le_refl _) h0
      obtain ⟨ra, ri⟩ := r3 (Or.inr h1)
      refine Or.inr ⟨h0, Or.inl ⟨by rw [r1]; exact h1, h2, by rw [ra]; exact h3, by rw [ri]; exact h4, ?_, ?_⟩⟩
      · rw [ri]; exact wfB_c f _ _ _ (fun j j1 j2 => r j (by omega) (by omega)) h5
      · rw [ri]; exact wfB_c f _ _ _ (fun j j1 j2 => r j (by omega) j2) h6
    · obtain ⟨r1, r2, r3⟩ := r lo (Nat.le_refl _) h0
      refine Or.inr ⟨h0, Or.inr ⟨by rw [r1]; exact stepT_c h1 r2 (fun e => r3 (Or.inl e)), wfB_c f _ _ _ (fun j j1 j2 => r j (by omega) j2) h2⟩⟩
/-- one row of a program -/
theorem one_ok {k e Qk Ak Ik : Nat} (h : stepT p Qk Ak Ik) : wfB p (fun _ => Qk) (fun _ => Ak) (fun _ => Ik) 1 e k (k + 1) := Or.inr ⟨by omega, Or.inr ⟨h, rfl⟩⟩
theorem tells {c5 : Int32} {k : Nat} (hk : k < 30) (s : Nat → Int32) (v1 v2 v3 : Int32) : f_X11_tellsStep u (-1 : Int32) (nI (3 * k)) s v1 v2 v3 = some (nI (3 * (k + 1)), upd (upd (upd s (3 * k) v1) (3 * k + 1) v2) (3 * k + 2) v3) := by
  unfold f_X11_tellsStep bX11_tellsStep_0
  rw [t_fine, z_b, if_neg d_10, show nI (3 * k) + (1 : Int32) = nI (3 * k + 1) from nI_add _ 1, show nI (3 * k) + (2 : Int32) = nI (3 * k + 2) from nI_add _ 2, show nI (3 * k) + (3 : Int32) = nI (3 * k + 3) from nI_add _ 3, z_ki (show 3 * k < 150 by omega) (by omega), z_ki (show 3 * k + 1 < 150 by omega) (by omega), z_ki (show 3 * k + 2 < 150 by omega) (by omega), z_cl (by omega), z_cl (by omega), z_cl (by omega), show 3 * k + 3 = 3 * (k + 1) by omega]
theorem tellsF {f : Nat} (hf : f < 2147483648) (c41 : Int32) (s : Nat → Int32) (v1 v2 v3 : Int32) : f_X11_tellsStep u (nI f) c41 s v1 v2 v3 = some (c41, s) := by
  unfold f_X11_tellsStep bX11_tellsStep_0
  rw [t_fineF hf, z_b, if_pos rfl]
theorem one_K {k : Nat} {x1 x2 x3 s : Nat → Int32} (v1 v2 v3 w1 w2 w3 : Int32) : KEPT k x1 x2 x3 s (upd x1 k v1) (upd x2 k v2) (upd x3 k v3) (upd (upd (upd s (3 * k) w1) (3 * k + 1) w2) (3 * k + 2) w3) := by
  refine ⟨fun j hj => ?_, fun j hj => ?_⟩
  · simp only [z_upd]
    rw [if_neg (by omega), if_neg (by omega), if_neg (by omega)]
    exact ⟨rfl, rfl, rfl⟩
  · simp only [z_upd]
    rw [if_neg (by omega), if_neg (by omega), if_neg (by omega)]
theorem upd_id {a : Nat → Int32} {k : Nat} : upd a k (a k) = a := by
  funext j
  simp only [z_upd]
  by_cases z : j = k
  · rw [if_pos z, z]
  · rw [if_neg z]
theorem s_at {s : Nat → Int32} {k : Nat} (w1 w2 w3 : Int32) : upd (upd (upd s (3 * k) w1) (3 * k + 1) w2) (3 * k + 2) w3 (3 * k) = w1 ∧ upd (upd (upd s (3 * k) w1) (3 * k + 1) w2) (3 * k + 2) w3 (3 * k + 1) = w2 ∧ upd (upd (upd s (3 * k) w1) (3 * k + 1) w2) (3 * k + 2) w3 (3 * k + 2) = w3 := by
  refine ⟨?_, ?_, ?_⟩
  · simp only [z_upd]; rw [if_neg (by omega), if_neg (by omega), if_pos trivial]
  · simp only [z_upd]; rw [if_neg (by omega), if_pos trivial]
  · simp only [z_upd]; rw [if_pos trivial]
theorem u_at {a : Nat → Int32} {k : Nat} (v : Int32) : upd a k v k = v := by
  simp only [z_upd]; rw [if_pos trivial]
theorem wl_w0 {q : Nat} (h : pkW b n q = ofW 26) : wl b n q = 3 := wl_of (w := 26) (by decide) (by decide) (by decide +kernel) h
theorem wid4_0 {q : Nat} (h : pkW b n q = ofW 26) : widW 4 b n q = some 0 := by
  rw [wid_4, h, if_pos rfl]
theorem wl_w1 {q : Nat} (h : pkW b n q = ofW 27) : wl b n q = 4 := wl_of (w := 27) (by decide) (by decide) (by decide +kernel) h
theorem wid4_1 {q : Nat} (h : pkW b n q = ofW 27) : widW 4 b n q = some 1 := by
  rw [wid_4, h, if_neg (show ¬ ofW 27 = ofW 26 by rw [ow_27, ow_26]; omega), if_pos rfl]
theorem wl_w2 {q : Nat} (h : pkW b n q = ofW 28) : wl b n q = 4 := wl_of (w := 28) (by decide) (by decide) (by decide +kernel) h
theorem wid4_2 {q : Nat} (h : pkW b n q = ofW 28) : widW 4 b n q = some 2 := by
  rw [wid_4, h, if_neg (show ¬ ofW 28 = ofW 26 by rw [ow_28, ow_26]; omega), if_neg (show ¬ ofW 28 = ofW 27 by rw [ow_28, ow_27]; omega), if_pos rfl]
theorem wl_w3 {q : Nat} (h : pkW b n q = ofW 25) : wl b n q = 5 := wl_of (w := 25) (by decide) (by decide) (by decide +kernel) h
theorem wid4_3 {q : Nat} (h : pkW b n q = ofW 25) : widW 4 b n q = some 3 := by
  rw [wid_4, h, if_neg (show ¬ ofW 25 = ofW 26 by rw [ow_25, ow_26]; omega), if_neg (show ¬ ofW 25 = ofW 27 by rw [ow_25, ow_27]; omega), if_neg (show ¬ ofW 25 = ofW 28 by rw [ow_25, ow_28]; omega), if_pos rfl]
theorem wl_w4 {q : Nat} (h : pkW b n q = ofW 29) : wl b n q = 4 := wl_of (w := 29) (by decide) (by decide) (by decide +kernel) h
theorem wid4_4 {q : Nat} (h : pkW b n q = ofW 29) : widW 4 b n q = some 4 := by
  rw [wid_4, h, if_neg (show ¬ ofW 29 = ofW 26 by rw [ow_29, ow_26]; omega), if_neg (show ¬ ofW 29 = ofW 27 by rw [ow_29, ow_27]; omega), if_neg (show ¬ ofW 29 = ofW 28 by rw [ow_29, ow_28]; omega), if_neg (show ¬ ofW 29 = ofW 25 by rw [ow_29, ow_25]; omega), if_pos rfl]
theorem wl_w5 {q : Nat} (h : pkW b n q = ofW 30) : wl b n q = 5 := wl_of (w := 30) (by decide) (by decide) (by decide +kernel) h
theorem wid4_5 {q : Nat} (h : pkW b n q = ofW 30) : widW 4 b n q = some 5 := by
  rw [wid_4, h, if_neg (show ¬ ofW 30 = ofW 26 by rw [ow_30, ow_26]; omega), if_neg (show ¬ ofW 30 = ofW 27 by rw [ow_30, ow_27]; omega), if_neg (show ¬ ofW 30 = ofW 28 by rw [ow_30, ow_28]; omega), if_neg (show ¬ ofW 30 = ofW 25 by rw [ow_30, ow_25]; omega), if_neg (show ¬ ofW 30 = ofW 29 by rw [ow_30, ow_29]; omega), if_pos rfl]
theorem x_st (T : TXT b n t1 t2) (hu : 700 ≤ u) {e k q j : Nat} (hq : q ≤ n) (hk : k < 30) (hw : widW 4 b n (sk b n q) = some j) (st pl : Int32) (x1 x2 x3 : Nat → Int32) : f_X6_readStep u gx (nI k) x1 x2 x3 (nI n) (nI (sk b n q)) st (0 : Int32) pl t1 (nI (pW p)) (nI (pH p)) (nI e) = (if nI j = (0 : Int32) then k_b (f_X8_number u (nI n) (nI (sk b n q + wl b n (sk b n q))) (nI (sk b n q)) (0 : Int32) pl t1 (0 : Int32) ((nI (pW p)) - (1 : Int32))) (fun r106 => k_i 30 (nI k) (k_i 30 (nI k) (k_b (f_X8_number u (nI n) r106.2.1 r106.2.2.1 r106.2.2.2.1 r106.2.2.2.2 t1 (0 : Int32) ((nI (pH p)) - (1 : Int32))) (fun r128 => k_i 30 (nI k) (some ((nI k + (1 : Int32)), (upd x1 ((nI k).toNatClampNeg) (nI j)), (upd (upd x2 ((nI k).toNatClampNeg) r106.1) ((nI k).toNatClampNeg) (((upd x2 ((nI k).toNatClampNeg) r106.1) ((nI k).toNatClampNeg)) + ((8 : Int32) * r128.1))), x3, r128.2.1, r128.2.2.1, r128.2.2.2.1, r128.2.2.2.2))))))
    else (if nI j = (1 : Int32) then k_b (f_X8_number u (nI n) (nI (sk b n q + wl b n (sk b n q))) (nI (sk b n q)) (0 : Int32) pl t1 (0 : Int32) ((nI (pW p)) - (1 : Int32))) (fun r106 => k_i 30 (nI k) (k_i 30 (nI k) (k_b (f_X8_number u (nI n) r106.2.1 r106.2.2.1 r106.2.2.2.1 r106.2.2.2.2 t1 (0 : Int32) ((nI (pH p)) - (1 : Int32))) (fun r128 => k_i 30 (nI k) (some ((nI k + (1 : Int32)), (upd x1 ((nI k).toNatClampNeg) (nI j)), (upd (upd x2 ((nI k).toNatClampNeg) r106.1) ((nI k).toNatClampNeg) (((upd x2 ((nI k).toNatClampNeg) r106.1) ((nI k).toNatClampNeg)) + ((8 : Int32) * r128.1))), x3, r128.2.1, r128.2.2.1, r128.2.2.2.1, r128.2.2.2.2))))))
    else (if nI j = (2 : Int32) then some ((nI k + (1 : Int32)), (upd x1 ((nI k).toNatClampNeg) (nI j)), x2, x3, nI (sk b n q + wl b n (sk b n q)), nI (sk b n q), (0 : Int32), pl) else (if nI j = (3 : Int32) then some ((nI k + (1 : Int32)), (upd x1 ((nI k).toNatClampNeg) (nI j)), x2, x3, nI (sk b n q + wl b n (sk b n q)), nI (sk b n q), (0 : Int32), pl)
    else (if nI j = (4 : Int32) then k_b (f_X8_number u (nI n) (nI (sk b n q + wl b n (sk b n q))) (nI (sk b n q)) (0 : Int32) pl t1 (1 : Int32) (4 : Int32)) (fun r146 => k_i 30 (nI k) (k_b (f_X8_number u (nI n) r146.2.1 r146.2.2.1 r146.2.2.2.1 r146.2.2.2.2 t1 (1 : Int32) (99 : Int32)) (fun r160 => k_i 30 (nI k) (some ((nI k + (1 : Int32)), (upd x1 ((nI k).toNatClampNeg) (nI j)), (upd x2 ((nI k).toNatClampNeg) r146.1), (upd x3 ((nI k).toNatClampNeg) r160.1), r160.2.1, r160.2.2.1, r160.2.2.2.1, r160.2.2.2.2)))))
    else (if nI j = (5 : Int32) then k_b (f_X6_readAgain u gx (nI k + (1 : Int32)) (upd x1 ((nI k).toNatClampNeg) (nI j)) x2 x3 (nI n) (nI (sk b n q + wl b n (sk b n q))) (nI (sk b n q)) (0 : Int32) pl t1 (nI (pW p)) (nI (pH p)) (nI e) (nI k)) (fun r173 => some (r173.1, r173.2.1, r173.2.2.1, r173.2.2.2.1, r173.2.2.2.2.1, r173.2.2.2.2.2.1, r173.2.2.2.2.2.2.1, r173.2.2.2.2.2.2.2)) else some ((nI k + (1 : Int32)), (upd x1 ((nI k).toNatClampNeg) (nI j)), x2, x3, nI (sk b n q + wl b n (sk b n q)), nI (sk b n q), (0 : Int32), pl))))))) := by
  have hs := sk_le b hq
  unfold f_X6_readStep bX6_readStep_0
  rw [t_wordX T hu (si := 4) hs (by decide), sk_id b hq, hw]
  dsimp only
  rw [if_pos rfl, z_b, t_good, z_b, if_neg d_10, if_pos (show nI k < (30 : Int32) from nI_lt (b := 30) hk (by omega)), z_ki hk (by omega)]
theorem sb_0 (T : TXT b n t1 t2) (hu : 700 ≤ u) (P : pOK p) {e k q : Nat} (hq : q ≤ n) (hk5 : 5 * k ≤ q) (hk : k < 30) (hw : pkW b n (sk b n q) = ofW 26) (st pl bk : Int32) (x1 x2 x3 s : Nat → Int32) : SO u n t2 gm pl p e k x1 x2 x3 s (f_X6_readStep u gx (nI k) x1 x2 x3 (nI n) (nI (sk b n q)) st (0 : Int32) pl t1 (nI (pW p)) (nI (pH p)) (nI e)) (f_X11_readStep u gm (nI n) (nI (sk b n q)) (-1 : Int32) bk (nI e) (nI (pW p)) (nI (pH p)) (nI (3 * k)) t2 s) := by
  have hn := T.1
  have hW := P.1
  have hH := P.2.1
  have hs := sk_le b hq
  have si := sk_id b hq
  have hg := sk_ge b n q
  have hwl := wl_le b hs
  have el := wl_w0 hw
  rw [x_st T hu hq hk (wid4_0 hw), if_pos (show nI 0 = (0 : Int32) from rfl)]
  unfold f_X11_readStep bX11_readStep_0
  rw [t_word T hu hs, z_b, si, hw, of_26 (by omega), z_b, if_pos rfl]
  unfold bX11_readStep_25
  rw [t_pass T hu hs, z_b]
  refine nb (P := SO u n t2 gm pl p e k x1 x2 x3 s) (lo := 0) (hi := pW p - 1) T hu hwl rfl (z_sub (b := 1) (by omega)) (by omega) (by omega) (fun w q1 h1 h2 h3 h4 => ?_) (fun kd f q1 q' hkd hf hq1 => ?_)
  · have g1 := sk_ge b n (sk b n q + wl b n (sk b n q))
    dsimp only
    rw [z_ki hk (by omega), z_ki hk (by omega), of_26 (by omega), z_b, if_pos rfl]
    unfold bX11_readStep_57
    refine nb (P := SO u n t2 gm pl p e k x1 x2 x3 s) (lo := 0) (hi := pH p - 1) T hu h4 rfl (z_sub (b := 1) (by omega)) (by omega) (by omega) (fun w2 q2 i1 i2 i3 i4 => ?_) (fun kd f q2 q' hkd hf hq2 => ?_)
    · have g2 := sk_ge b n q1
      dsimp only
      rw [z_ki hk (by omega), tells (c5 := 0) hk, z_b, z_cl (by omega), show nI k + (1 : Int32) = nI (k + 1) from nI_1 k, u_at, show nI w + (8 : Int32) * nI w2 = nI (8 * w2 + w) by rw [← e_8]; exact Int32.add_comm _ _, e_8]
      have hx : upd (upd x2 k (nI w)) k (nI (8 * w2 + w)) = upd x2 k (nI (8 * w2 + w)) := by
        funext j
        simp only [z_upd]
        by_cases z : j = k
        · rw [if_pos z, if_pos z]
        · rw [if_neg z, if_neg z, if_neg z]
      rw [hx]
      refine ⟨_, (_, _, _, _, _, _), rfl, rfl, Or.inl ⟨k + 1, q2, fun _ => 0, fun _ => 8 * w2 + w, fun _ => 0, 1, by omega, by omega, i4, ?_, ?_, one_ok ⟨by omega, fun _ => ⟨by omega, ?_⟩, fun e => absurd e (by omega)⟩, rfl, rfl, rfl, rfl, rfl, rfl, rfl, rfl⟩⟩
      · have := one_K (k := k) (x1 := x1) (x2 := x2) (x3 := x3) (s := s) (nI 0) (nI (8 * w2 + w)) (x3 k) (0 : Int32) (nI (8 * w2 + w)) (0 : Int32)
        rw [upd_id] at this
        exact this
      · intro j j1 j2
        obtain rfl : j = k := by omega
        obtain ⟨a1, a2, a3⟩ := s_at (s := s) (k := j) (0 : Int32) (nI (8 * w2 + w)) (0 : Int32)
        exact ⟨(show (0 : Nat) ≤ 5 by omega), u_at _, a1, fun _ => ⟨u_at _, a2⟩, fun e => absurd (show (0 : Nat) = 4 from e) (by omega), fun e => absurd (show (0 : Nat) = 5 from e) (by omega)⟩
      · unfold inG
        rw [decide_eq_true (show (8 * w2 + w) % 8 < pW p by omega), decide_eq_true (show (8 * w2 + w) / 8 < pH p by omega)]
        rfl
    · dsimp only
      rw [z_ki hk (by omega), tellsF (show f < 2147483648 by omega), z_b]
      exact ⟨_, (_, _, _, _, _, _), rfl, rfl, Or.inr ⟨kd, f, q2, by omega, by omega, by assumption, by assumption, rfl, rfl, rfl, rfl, rfl⟩⟩
  · dsimp only
    rw [z_ki hk (by omega), z_ki hk (by omega), of_26 (by omega), z_b, if_pos rfl]
    unfold bX11_readStep_57
    refine nbF (P := SO u n t2 gm pl p e k x1 x2 x3 s) T hu hq1 (kf_1 hkd) (show f < 2147483648 by omega) (fun q2 st' hq2 => ?_)
    dsimp only
    rw [z_ki hk (by omega), tellsF (show f < 2147483648 by omega), z_b]
    exact ⟨_, (_, _, _, _, _, _), rfl, rfl, Or.inr ⟨kd, f, q2, by omega, by omega, by assumption, by assumption, rfl, rfl, rfl, rfl, rfl⟩⟩
theorem sb_1 (T : TXT b n t1 t2) (hu : 700 ≤ u) (P : pOK p) {e k q : Nat} (hq : q ≤ n) (hk5 : 5 * k ≤ q) (hk : k < 30) (hw : pkW b n (sk b n q) = ofW 27) (st pl bk : Int32) (x1 x2 x3 s : Nat → Int32) : SO u n t2 gm pl p e k x1 x2 x3 s (f_X6_readStep u gx (nI k) x1 x2 x3 (nI n) (nI (sk b n q)) st (0 : Int32) pl t1 (nI (pW p)) (nI (pH p)) (nI e)) (f_X11_readStep u gm (nI n) (nI (sk b n q)) (-1 : Int32) bk (nI e) (nI (pW p)) (nI (pH p)) (nI (3 * k)) t2 s) := by
  have hn := T.1
  have hW := P.1
  have hH := P.2.1
  have hs := sk_le b hq
  have si := sk_id b hq
  have hg := sk_ge b n q
  have hwl := wl_le b hs
  have el := wl_w1 hw
  rw [x_st T hu hq hk (wid4_1 hw), if_neg (show ¬ nI 1 = (0 : Int32) by decide), if_pos (show nI 1 = (1 : Int32) from rfl)]
  unfold f_X11_readStep bX11_readStep_0
  rw [t_word T hu hs, z_b, si, hw, of_26 (by omega), z_b, if_neg (ow_ne ow_27 ow_26 (by omega) (by omega) (by omega)), of_27 (by omega), z_b, if_pos rfl]
  unfold bX11_readStep_25
  rw [t_pass T hu hs, z_b]
  refine nb (P := SO u n t2 gm pl p e k x1 x2 x3 s) (lo := 0) (hi := pW p - 1) T hu hwl rfl (z_sub (b := 1) (by omega)) (by omega) (by omega) (fun w q1 h1 h2 h3 h4 => ?_) (fun kd f q1 q' hkd hf hq1 => ?_)
  · have g1 := sk_ge b n (sk b n q + wl b n (sk b n q))
    dsimp only
    rw [z_ki hk (by omega), z_ki hk (by omega), of_26 (by omega), z_b, if_neg (ow_ne ow_27 ow_26 (by omega) (by omega) (by omega))]
    unfold bX11_readStep_57
    refine nb (P := SO u n t2 gm pl p e k x1 x2 x3 s) (lo := 0) (hi := pH p - 1) T hu h4 rfl (z_sub (b := 1) (by omega)) (by omega) (by omega) (fun w2 q2 i1 i2 i3 i4 => ?_) (fun kd f q2 q' hkd hf hq2 => ?_)
    · have g2 := sk_ge b n q1
      dsimp only
      rw [z_ki hk (by omega), tells (c5 := 0) hk, z_b, z_cl (by omega), show nI k + (1 : Int32) = nI (k + 1) from nI_1 k, u_at, show nI w + (8 : Int32) * nI w2 = nI (8 * w2 + w) by rw [← e_8]; exact Int32.add_comm _ _, e_8]
      have hx : upd (upd x2 k (nI w)) k (nI (8 * w2 + w)) = upd x2 k (nI (8 * w2 + w)) := by
        funext j
        simp only [z_upd]
        by_cases z : j = k
        · rw [if_pos z, if_pos z]
        · rw [if_neg z, if_neg z, if_neg z]
      rw [hx]
      refine ⟨_, (_, _, _, _, _, _), rfl, rfl, Or.inl ⟨k + 1, q2, fun _ => 1, fun _ => 8 * w2 + w, fun _ => 0, 1, by omega, by omega, i4, ?_, ?_, one_ok ⟨by omega, fun _ => ⟨by omega, ?_⟩, fun e => absurd e (by omega)⟩, rfl, rfl, rfl, rfl, rfl, rfl, rfl, rfl⟩⟩
      · have := one_K (k := k) (x1 := x1) (x2 := x2) (x3 := x3) (s := s) (nI 1) (nI (8 * w2 + w)) (x3 k) (1 : Int32) (nI (8 * w2 + w)) (0 : Int32)
        rw [upd_id] at this
        exact this
      · intro j j1 j2
        obtain rfl : j = k := by omega
        obtain ⟨a1, a2, a3⟩ := s_at (s := s) (k := j) (1 : Int32) (nI (8 * w2 + w)) (0 : Int32)
        exact ⟨(show (1 : Nat) ≤ 5 by omega), u_at _, a1, fun _ => ⟨u_at _, a2⟩, fun e => absurd (show (1 : Nat) = 4 from e) (by omega), fun e => absurd (show (1 : Nat) = 5 from e) (by omega)⟩
      · unfold inG
        rw [decide_eq_true (show (8 * w2 + w) % 8 < pW p by omega), decide_eq_true (show (8 * w2 + w) / 8 < pH p by omega)]
        rfl
    · dsimp only
      rw [z_ki hk (by omega), tellsF (show f < 2147483648 by omega), z_b]
      exact ⟨_, (_, _, _, _, _, _), rfl, rfl, Or.inr ⟨kd, f, q2, by omega, by omega, by assumption, by assumption, rfl, rfl, rfl, rfl, rfl⟩⟩
  · dsimp only
    rw [z_ki hk (by omega), z_ki hk (by omega), of_26 (by omega), z_b, if_neg (ow_ne ow_27 ow_26 (by omega) (by omega) (by omega))]
    unfold bX11_readStep_57
    refine nbF (P := SO u n t2 gm pl p e k x1 x2 x3 s) T hu hq1 (kf_1 hkd) (show f < 2147483648 by omega) (fun q2 st' hq2 => ?_)
    dsimp only
    rw [z_ki hk (by omega), tellsF (show f < 2147483648 by omega), z_b]
    exact ⟨_, (_, _, _, _, _, _), rfl, rfl, Or.inr ⟨kd, f, q2, by omega, by omega, by assumption, by assumption, rfl, rfl, rfl, rfl, rfl⟩⟩
theorem sb_2 (T : TXT b n t1 t2) (hu : 700 ≤ u) (P : pOK p) {e k q : Nat} (hq : q ≤ n) (hk5 : 5 * k ≤ q) (hk : k < 30) (hw : pkW b n (sk b n q) = ofW 28) (st pl bk : Int32) (x1 x2 x3 s : Nat → Int32) : SO u n t2 gm pl p e k x1 x2 x3 s (f_X6_readStep u gx (nI k) x1 x2 x3 (nI n) (nI (sk b n q)) st (0 : Int32) pl t1 (nI (pW p)) (nI (pH p)) (nI e)) (f_X11_readStep u gm (nI n) (nI (sk b n q)) (-1 : Int32) bk (nI e) (nI (pW p)) (nI (pH p)) (nI (3 * k)) t2 s) := by
  have hn := T.1
  have hW := P.1
  have hH := P.2.1
  have hs := sk_le b hq
  have si := sk_id b hq
  have hg := sk_ge b n q
  have hwl := wl_le b hs
  have el := wl_w2 hw
  rw [x_st T hu hq hk (wid4_2 hw), if_neg (show ¬ nI 2 = (0 : Int32) by decide), if_neg (show ¬ nI 2 = (1 : Int32) by decide), if_pos (show nI 2 = (2 : Int32) from rfl)]
  unfold f_X11_readStep bX11_readStep_0
  rw [t_word T hu hs, z_b, si, hw, of_26 (by omega), z_b, if_neg (ow_ne ow_28 ow_26 (by omega) (by omega) (by omega)), of_27 (by omega), z_b, if_neg (ow_ne ow_28 ow_27 (by omega) (by omega) (by omega)), of_28 (by omega), z_b, if_pos rfl]
  unfold bX11_readStep_100
  rw [t_pass T hu hs, z_b, of_28 (by omega), z_b, if_pos rfl]
  unfold bX11_readStep_120
  rw [tells (c5 := 0) hk, z_b, z_cl (by omega), show nI k + (1 : Int32) = nI (k + 1) from nI_1 k]
  refine ⟨_, (_, _, _, _, _, _), rfl, rfl, Or.inl ⟨k + 1, sk b n q + wl b n (sk b n q), fun _ => 2, fun _ => 0, fun _ => 0, 1, by omega, by omega, hwl, ?_, ?_, one_ok ⟨by omega, fun e => absurd e (by omega), fun e => absurd e (by omega)⟩, rfl, rfl, rfl, rfl, rfl, rfl, rfl, rfl⟩⟩
  · have := one_K (k := k) (x1 := x1) (x2 := x2) (x3 := x3) (s := s) (nI 2) (x2 k) (x3 k) (2 : Int32) (0 : Int32) (0 : Int32)
    rw [upd_id, upd_id] at this
    exact this
  · intro j j1 j2
    obtain rfl : j = k := by omega
    obtain ⟨a1, a2, a3⟩ := s_at (s := s) (k := j) (2 : Int32) (0 : Int32) (0 : Int32)
    exact ⟨(show (2 : Nat) ≤ 5 by omega), u_at _, a1, fun e => absurd (show (2 : Nat) ≤ 1 from e) (by omega), fun e => absurd (show (2 : Nat) = 4 from e) (by omega), fun e => absurd (show (2 : Nat) = 5 from e) (by omega)⟩
theorem sb_3 (T : TXT b n t1 t2) (hu : 700 ≤ u) (P : pOK p) {e k q : Nat} (hq : q ≤ n) (hk5 : 5 * k ≤ q) (hk : k < 30) (hw : pkW b n (sk b n q) = ofW 25) (st pl bk : Int32) (x1 x2 x3 s : Nat → Int32) : SO u n t2 gm pl p e k x1 x2 x3 s (f_X6_readStep u gx (nI k) x1 x2 x3 (nI n) (nI (sk b n q)) st (0 : Int32) pl t1 (nI (pW p)) (nI (pH p)) (nI e)) (f_X11_readStep u gm (nI n) (nI (sk b n q)) (-1 : Int32) bk (nI e) (nI (pW p)) (nI (pH p)) (nI (3 * k)) t2 s) := by
  have hn := T.1
  have hW := P.1
  have hH := P.2.1
  have hs := sk_le b hq
  have si := sk_id b hq
  have hg := sk_ge b n q
  have hwl := wl_le b hs
  have el := wl_w3 hw
  rw [x_st T hu hq hk (wid4_3 hw), if_neg (show ¬ nI 3 = (0 : Int32) by decide), if_neg (show ¬ nI 3 = (1 : Int32) by decide), if_neg (show ¬ nI 3 = (2 : Int32) by decide), if_pos (show nI 3 = (3 : Int32) from rfl)]
  unfold f_X11_readStep bX11_readStep_0
  rw [t_word T hu hs, z_b, si, hw, of_26 (by omega), z_b, if_neg (ow_ne ow_25 ow_26 (by omega) (by omega) (by omega)), of_27 (by omega), z_b, if_neg (ow_ne ow_25 ow_27 (by omega) (by omega) (by omega)), of_28 (by omega), z_b, if_neg (ow_ne ow_25 ow_28 (by omega) (by omega) (by omega)), of_25 (by omega), z_b, if_pos rfl]
  unfold bX11_readStep_100
  rw [t_pass T hu hs, z_b, of_28 (by omega), z_b, if_neg (ow_ne ow_25 ow_28 (by omega) (by omega) (by omega))]
  unfold bX11_readStep_120
  rw [tells (c5 := 0) hk, z_b, z_cl (by omega), show nI k + (1 : Int32) = nI (k + 1) from nI_1 k]
  refine ⟨_, (_, _, _, _, _, _), rfl, rfl, Or.inl ⟨k + 1, sk b n q + wl b n (sk b n q), fun _ => 3, fun _ => 0, fun _ => 0, 1, by omega, by omega, hwl, ?_, ?_, one_ok ⟨by omega, fun e => absurd e (by omega), fun e => absurd e (by omega)⟩, rfl, rfl, rfl, rfl, rfl, rfl, rfl, rfl⟩⟩
  · have := one_K (k := k) (x1 := x1) (x2 := x2) (x3 := x3) (s := s) (nI 3) (x2 k) (x3 k) (3 : Int32) (0 : Int32) (0 : Int32)
    rw [upd_id, upd_id] at this
    exact this
  · intro j j1 j2
    obtain rfl : j = k := by omega
    obtain ⟨a1, a2, a3⟩ := s_at (s := s) (k := j) (3 : Int32) (0 : Int32) (0 : Int32)
    exact ⟨(show (3 : Nat) ≤ 5 by omega), u_at _, a1, fun e => absurd (show (3 : Nat) ≤ 1 from e) (by omega), fun e => absurd (show (3 : Nat) = 4 from e) (by omega), fun e => absurd (show (3 : Nat) = 5 from e) (by omega)⟩
theorem sb_4 (T : TXT b n t1 t2) (hu : 700 ≤ u) (P : pOK p) {e k q : Nat} (hq : q ≤ n) (hk5 : 5 * k ≤ q) (hk : k < 30) (hw : pkW b n (sk b n q) = ofW 29) (st pl bk : Int32) (x1 x2 x3 s : Nat → Int32) : SO u n t2 gm pl p e k x1 x2 x3 s (f_X6_readStep u gx (nI k) x1 x2 x3 (nI n) (nI (sk b n q)) st (0 : Int32) pl t1 (nI (pW p)) (nI (pH p)) (nI e)) (f_X11_readStep u gm (nI n) (nI (sk b n q)) (-1 : Int32) bk (nI e) (nI (pW p)) (nI (pH p)) (nI (3 * k)) t2 s) := by
  have hn := T.1
  have hW := P.1
  have hH := P.2.1
  have hs := sk_le b hq
  have si := sk_id b hq
  have hg := sk_ge b n q
  have hwl := wl_le b hs
  have el := wl_w4 hw
  rw [x_st T hu hq hk (wid4_4 hw), if_neg (show ¬ nI 4 = (0 : Int32) by decide), if_neg (show ¬ nI 4 = (1 : Int32) by decide), if_neg (show ¬ nI 4 = (2 : Int32) by decide), if_neg (show ¬ nI 4 = (3 : Int32) by decide), if_pos (show nI 4 = (4 : Int32) from rfl)]
  unfold f_X11_readStep bX11_readStep_0
  rw [t_word T hu hs, z_b, si, hw, of_26 (by omega), z_b, if_neg (ow_ne ow_29 ow_26 (by omega) (by omega) (by omega)), of_27 (by omega), z_b, if_neg (ow_ne ow_29 ow_27 (by omega) (by omega) (by omega)), of_28 (by omega), z_b, if_neg (ow_ne ow_29 ow_28 (by omega) (by omega) (by omega)), of_25 (by omega), z_b, if_neg (ow_ne ow_29 ow_25 (by omega) (by omega) (by omega)), of_29 (by omega), z_b, if_pos rfl]
  rw [t_pass T hu hs, z_b]
  refine nb (P := SO u n t2 gm pl p e k x1 x2 x3 s) (lo := 1) (hi := 4) T hu hwl rfl rfl (by omega) (by omega) (fun w q1 h1 h2 h3 h4 => ?_) (fun kd f q1 q' hkd hf hq1 => ?_)
  · have g1 := sk_ge b n (sk b n q + wl b n (sk b n q))
    dsimp only
    rw [z_ki hk (by omega)]
    refine nb (P := SO u n t2 gm pl p e k x1 x2 x3 s) (lo := 1) (hi := 99) T hu h4 rfl rfl (by omega) (by omega) (fun w2 q2 i1 i2 i3 i4 => ?_) (fun kd f q2 q' hkd hf hq2 => ?_)
    · have g2 := sk_ge b n q1
      dsimp only
      rw [z_ki hk (by omega), tells (c5 := 0) hk, z_b, z_cl (by omega), show nI k + (1 : Int32) = nI (k + 1) from nI_1 k]
      refine ⟨_, (_, _, _, _, _, _), rfl, rfl, Or.inl ⟨k + 1, q2, fun _ => 4, fun _ => w, fun _ => w2, 1, by omega, by omega, i4, one_K _ _ _ _ _ _, ?_, one_ok ⟨by omega, fun e => absurd e (by omega), fun _ => ⟨h1, h2, i2⟩⟩, rfl, rfl, rfl, rfl, rfl, rfl, rfl, rfl⟩⟩
      intro j j1 j2
      obtain rfl : j = k := by omega
      obtain ⟨a1, a2, a3⟩ := s_at (s := s) (k := j) (4 : Int32) (nI w) (nI w2)
      exact ⟨(show (4 : Nat) ≤ 5 by omega), u_at _, a1, fun e => absurd (show (4 : Nat) ≤ 1 from e) (by omega), fun _ => ⟨u_at _, a2, u_at _, a3⟩, fun e => absurd (show (4 : Nat) = 5 from e) (by omega)⟩
    · dsimp only
      rw [z_ki hk (by omega), tellsF (show f < 2147483648 by omega), z_b]
      exact ⟨_, (_, _, _, _, _, _), rfl, rfl, Or.inr ⟨kd, f, q2, by omega, by omega, by assumption, by assumption, rfl, rfl, rfl, rfl, rfl⟩⟩
  · dsimp only
    rw [z_ki hk (by omega)]
    refine nbF (P := SO u n t2 gm pl p e k x1 x2 x3 s) T hu hq1 (kf_1 hkd) (show f < 2147483648 by omega) (fun q2 st' hq2 => ?_)
    dsimp only
    rw [z_ki hk (by omega), tellsF (show f < 2147483648 by omega), z_b]
    exact ⟨_, (_, _, _, _, _, _), rfl, rfl, Or.inr ⟨kd, f, q2, by omega, by omega, by assumption, by assumption, rfl, rfl, rfl, rfl, rfl⟩⟩
end STP
