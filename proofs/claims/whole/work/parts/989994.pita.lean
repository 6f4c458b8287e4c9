/-! PIT: a text read alike on both sides; numbers in a row -/
section PTA
variable {u n : Nat} {b : Nat → Nat} {t1 t2 : Nat → Int32}
theorem kb_assoc {A B C : Type} (a : Option A) (f : A → Option B) (g : B → Option C) : k_b (k_b a f) g = k_b a (fun x => k_b (f x) g) := by
  cases a <;> rfl
theorem kb_e {A B C : Type} {P : Option B → Option C → Prop} {a : Option A} {r : A} {F : A → Option B} {M : Option C} (e : a = some r) (g : P (F r) M) : P (k_b a F) M := by
  rw [e]; exact g
theorem kb_eM {A B C : Type} {P : Option C → Option B → Prop} {a : Option A} {r : A} {F : A → Option B} {M : Option C} (e : a = some r) (g : P M (F r)) : P M (k_b a F) := by
  rw [e]; exact g
theorem nb {A B : Type} {P : Option A → Option B → Prop} (T : TXT b n t1 t2) (hu : 700 ≤ u) {p : Nat} (hp : p ≤ n) {lo hi : Nat} {lo' hi' : Int32} (hl : lo' = nI lo) (hh : hi' = nI hi) (hb : hi ≤ 9999) (hc : lo ≤ 9999) {st pl bk : Int32} {G : Int32 × Int32 × Int32 × Int32 × Int32 → Option A} {GM : Int32 × Int32 × Int32 × Int32 → Option B}
    (g : ∀ w q, lo ≤ w → w ≤ hi → sk b n p < q → q ≤ n → P (G (nI w, nI q, nI (sk b n p), (0 : Int32), pl)) (GM (nI w, nI q, (-1 : Int32), bk)))
    (fl : ∀ k f q q', (k = 1 ∨ k = 2) → f ≤ n → q ≤ n → P (G (lo', nI q, nI (sk b n p), nI k, nI f)) (GM ((0 : Int32), q', nI f, nI k))) :
    P (k_b (f_X8_number u (nI n) (nI p) st (0 : Int32) pl t1 lo' hi') G) (k_b (f_X11_readNumber u (nI n) (nI p) (-1 : Int32) bk t2 lo' hi') GM) := by
  subst hl hh
  rcases t_num T hu hp hb hc st pl bk with ⟨w, q, h1, h2, h3, h4, e1, e2⟩ | ⟨k, f, q, h1, h2, h3, e1, q', e2⟩
  · rw [e1, e2]; exact g w q h1 h2 h3 h4
  · rw [e1, e2]; exact fl k f q q' h1 h2 h3
theorem nbF {A B : Type} {P : Option A → Option B → Prop} (T : TXT b n t1 t2) (hu : 700 ≤ u) {p : Nat} (hp : p ≤ n) {f : Int32} (hf : ¬ f = 0) {fm : Nat} (hm : fm < 2147483648) {lo' hi' lo2 hi2 st pl bk at' n' : Int32} {G : Int32 × Int32 × Int32 × Int32 × Int32 → Option A} {GM : Int32 × Int32 × Int32 × Int32 → Option B}
    (g : ∀ q st', q ≤ n → P (G (lo', nI q, st', f, pl)) (GM ((0 : Int32), at', nI fm, bk))) :
    P (k_b (f_X8_number u (nI n) (nI p) st f pl t1 lo' hi') G) (k_b (f_X11_readNumber u n' at' (nI fm) bk t2 lo2 hi2) GM) := by
  obtain ⟨q, hq, e⟩ := t_numF T hu hp hf st pl lo' hi'
  rw [e, t_numMF hm]
  exact g q _ hq
theorem kf_1 {k : Nat} (h : k = 1 ∨ k = 2) : ¬ nI k = (0 : Int32) := by rcases h with rfl | rfl <;> decide
theorem up5 {N : Nat} {a : Nat → Int32} {f : Nat → Nat} {w v : Nat} (h : ∀ k, k < N → a k = nI (f k)) : ∀ k, k < N → upd a w (nI v) k = nI (if k = w then v else f k) := by
  intro k hk
  simp only [z_upd]
  by_cases y : k = w
  · rw [if_pos y, if_pos y]
  · rw [if_neg y, if_neg y]; exact h k hk
theorem up48 {a : Nat → Int32} {f : Nat → Nat} {w : Nat} (v : Nat) (h : ∀ k, k < 48 → a k = nI (f k)) : ∀ k, k < 48 → upd a w (nI v) k = nI (if k = w then v else f k) := up5 h
theorem e_8 (y x : Nat) : (8 : Int32) * nI y + nI x = nI (8 * y + x) := by
  rw [show (8 : Int32) * nI y = nI (8 * y) from (Int32.ofNat_mul 8 y).symm, nI_add]
theorem x_lay {x y : Nat} (hx : x < 8) (hy : y < 6) (A B : Nat → Int32) (v w : Int32) : f_X5_lay u A B (nI x) (nI y) v w = some (upd A (8 * y + x) v, upd B (8 * y + x) w) := by
  unfold f_X5_lay bX5_lay_0
  rw [e_8, if_neg (show ¬ nI (8 * y + x) < (0 : Int32) from nI_pos (by omega)), if_neg (show ¬ (48 : Int32) ≤ nI (8 * y + x) from nI_ge (b := 48) (by omega) (by omega)), z_ki (by omega) (by omega), z_ki (by omega) (by omega), z_cl (by omega)]
theorem shA_or {d : Int32} {D : Nat → Bool} (h : shA d D) {w : Nat} (hw : w < 8) : shA (d ||| ((1 : Int32) <<< (nI w &&& 31))) (fun x => D x || decide (x = w)) := by
  intro x hx
  have h1 := h x hx
  have e : ∀ w, w < 8 → ∀ x, x < 8 → (((1 : Int32) <<< (nI w &&& 31)) >>> (nI x &&& nI 31)) &&& nI 1 = zB (decide (x = w)) := by decide
  have h2 := e w hw x hx
  have dist : ((d ||| ((1 : Int32) <<< (nI w &&& 31))) >>> (nI x &&& nI 31)) &&& nI 1 = ((d >>> (nI x &&& nI 31)) &&& nI 1) ||| ((((1 : Int32) <<< (nI w &&& 31)) >>> (nI x &&& nI 31)) &&& nI 1) := by
    apply b_ext
    intro j hj
    have e31 : nI x &&& nI 31 = nI x &&& 31 := rfl
    rw [e31]
    simp only [b_and, b_or]
    rw [b_sshr _ (by omega) _ hj, b_sshr _ (by omega) _ hj, b_sshr _ (by omega) _ hj]
    by_cases z : x + j < 32
    · simp only [if_pos z, b_or, Bool.and_or_distrib_right]
    · simp only [if_neg z, b_or, Bool.and_or_distrib_right]
  rw [dist, h1, h2]
  have zz : ∀ a c : Bool, zB a ||| zB c = zB (a || c) := by decide
  exact zz _ _
/-- what was read so far: the class, the reference -/
def PX (p : aP) (s : Nat) (x0 x1 x7 x8 x9 x10 : Int32) (x6 : Int64) (a1 a2 a3 a4 a5 a6 : Nat → Int32) : Prop := x0 = nI (pW p) ∧ x1 = nI (pH p) ∧ x7 = nI s ∧ x8 = nI (pC p) ∧ x9 = nI (pSt p) ∧ x10 = nI (pO p) ∧ lS x6 (fun c => decide (c < 8) && pD p c) ∧ kbA a1 a2 (pK p) (pB p) ∧ (∀ k, k < 5 → a3 k = nI (pP p k)) ∧ ordX (pO p) (pT p) (pZ p) (pN p) a4 a5 a6
def PM (p : aP) (s : Nat) (m18 m19 m20 m21 m22 m23 m24 : Int32) (b3 b4 b5 b6 : Nat → Int32) : Prop := m18 = nI (pW p) ∧ m19 = nI (pH p) ∧ shA m20 (pD p) ∧ m21 = nI s ∧ m22 = nI (pC p) ∧ m23 = nI (pSt p) ∧ m24 = nI (pO p) ∧ kbA b3 b4 (pK p) (pB p) ∧ (∀ k, k < 5 → b5 k = nI (pP p k)) ∧ ordM (pO p) (pT p) (pZ p) (pN p) b6
abbrev cXo : Type := Int32 × Int32 × Int32 × Int32 × Int32 × Int32 × Int64 × (Nat → Int32) × (Nat → Int32) × (Nat → Int32) × (Nat → Int32) × (Nat → Int32) × (Nat → Int32) × Int32 × Int32 × Int32 × Int32
abbrev cMo : Type := Int32 × Int32 × Int32 × Int32 × Int32 × Int32 × Int32 × Int32 × Int32 × Int32 × (Nat → Int32) × (Nat → Int32) × (Nat → Int32) × (Nat → Int32)
def OKC (n : Nat) (pl : Int32) (o : cXo) (o' : cMo) : Prop := ∃ (p : aP) (s q : Nat), pOK p ∧ s ≤ 4 ∧ q ≤ n ∧ PX p s o.1 o.2.1 o.2.2.1 o.2.2.2.1 o.2.2.2.2.1 o.2.2.2.2.2.1 o.2.2.2.2.2.2.1 o.2.2.2.2.2.2.2.1 o.2.2.2.2.2.2.2.2.1 o.2.2.2.2.2.2.2.2.2.1 o.2.2.2.2.2.2.2.2.2.2.1 o.2.2.2.2.2.2.2.2.2.2.2.1 o.2.2.2.2.2.2.2.2.2.2.2.2.1 ∧ PM p s o'.2.2.2.1 o'.2.2.2.2.1 o'.2.2.2.2.2.1 o'.2.2.2.2.2.2.1 o'.2.2.2.2.2.2.2.1 o'.2.2.2.2.2.2.2.2.1 o'.2.2.2.2.2.2.2.2.2.1 o'.2.2.2.2.2.2.2.2.2.2.1 o'.2.2.2.2.2.2.2.2.2.2.2.1 o'.2.2.2.2.2.2.2.2.2.2.2.2.1 o'.2.2.2.2.2.2.2.2.2.2.2.2.2 ∧ o.2.2.2.2.2.2.2.2.2.2.2.2.2.1 = nI q ∧ o.2.2.2.2.2.2.2.2.2.2.2.2.2.2.2.1 = 0 ∧ o.2.2.2.2.2.2.2.2.2.2.2.2.2.2.2.2 = pl ∧ o'.1 = nI q ∧ o'.2.1 = -1
def FTC (n : Nat) (o : cXo) (o' : cMo) : Prop := ∃ k f q H : Nat, 1 ≤ k ∧ k ≤ 4 ∧ f ≤ n ∧ q ≤ n ∧ H ≤ 6 ∧ o.2.1 = nI H ∧ o.2.2.2.2.2.2.2.2.2.2.2.2.2.1 = nI q ∧ o.2.2.2.2.2.2.2.2.2.2.2.2.2.2.2.1 = nI k ∧ o.2.2.2.2.2.2.2.2.2.2.2.2.2.2.2.2 = nI f ∧ o'.2.1 = nI f ∧ o'.2.2.1 = nI k
def OUTC (n : Nat) (pl : Int32) (X : Option cXo) (M : Option cMo) : Prop := ∃ o o', X = some o ∧ M = some o' ∧ (OKC n pl o o' ∨ FTC n o o')
variable {p : aP} {s : Nat} {x0 x1 x7 x8 x9 x10 : Int32} {x6 : Int64} {a1 a2 a3 a4 a5 a6 : Nat → Int32} {m18 m19 m20 m21 m22 m23 m24 : Int32} {b3 b4 b5 b6 : Nat → Int32}
theorem cl_4 (T : TXT b n t1 t2) (hu : 700 ≤ u) (P : pOK p) (hs : s ≤ 4) (X : PX p s x0 x1 x7 x8 x9 x10 x6 a1 a2 a3 a4 a5 a6) (M : PM p s m18 m19 m20 m21 m22 m23 m24 b3 b4 b5 b6) {q : Nat} (hq : q ≤ n) (st pl bk v : Int32) : OUTC n pl (bX5_readClause_22 u (nI n) t1 x0 x1 x7 x8 x9 x10 x6 a1 a2 a3 a4 a5 a6 (nI q) st (0 : Int32) pl v (4 : Int32)) (f_X11_readClause u (nI n) (nI q) (-1 : Int32) bk m18 m19 m20 m21 m22 m23 m24 t2 b3 b4 b5 b6 (nI (ofW 11))) := by
  obtain ⟨rfl, rfl, rfl, rfl, rfl, rfl, X6, XK, XP, XO⟩ := X
  obtain ⟨rfl, rfl, MD, rfl, rfl, rfl, rfl, MK, MP, MO⟩ := M
  rw [bX5_readClause_22, t_good, z_b, if_neg d_10, if_neg (show ¬ (4 : Int32) = 0 by decide), if_neg (show ¬ (4 : Int32) = 1 by decide), if_neg (show ¬ (4 : Int32) = 2 by decide), if_neg (show ¬ (4 : Int32) = 3 by decide), if_pos (show (4 : Int32) = 4 from rfl), f_X11_readClause, bX11_readClause_0, of_7 (by omega), z_b, if_neg (ow_ne ow_11 ow_7 (by omega) (by omega) (by omega)), of_8 (by omega), z_b, if_neg (ow_ne ow_11 ow_8 (by omega) (by omega) (by omega)), of_9 (by omega), z_b, if_neg (ow_ne ow_11 ow_9 (by omega) (by omega) (by omega)), of_10 (by omega), z_b, if_neg (ow_ne ow_11 ow_10 (by omega) (by omega) (by omega)), of_11 (by omega), z_b, if_pos rfl]
  refine nb (P := OUTC n pl) (lo := 1) (hi := 9) T hu hq rfl rfl (by omega) (by omega) (fun w q h1 h2 h3 h4 => ?_) (fun k f q q' hk hf hq => ?_)
  · exact ⟨_, _, rfl, rfl, Or.inl ⟨(pW p, pH p, pO p, w, pSt p, pK p, pB p, pP p, pT p, pZ p, pN p, pD p), s, q, ⟨P.1, P.2.1, ⟨h1, h2⟩, P.2.2.2⟩, hs, by assumption, ⟨rfl, rfl, rfl, rfl, rfl, rfl, X6, XK, XP, XO⟩, ⟨rfl, rfl, MD, rfl, rfl, rfl, rfl, MK, MP, MO⟩, rfl, rfl, rfl, rfl, rfl⟩⟩
  · exact ⟨_, _, rfl, rfl, Or.inr ⟨k, f, q, pH p, by omega, by omega, hf, hq, P.2.1.2, rfl, rfl, rfl, rfl, rfl, rfl⟩⟩
theorem cl_5 (T : TXT b n t1 t2) (hu : 700 ≤ u) (P : pOK p) (hs : s ≤ 4) (X : PX p s x0 x1 x7 x8 x9 x10 x6 a1 a2 a3 a4 a5 a6) (M : PM p s m18 m19 m20 m21 m22 m23 m24 b3 b4 b5 b6) {q : Nat} (hq : q ≤ n) (st pl bk v : Int32) : OUTC n pl (bX5_readClause_22 u (nI n) t1 x0 x1 x7 x8 x9 x10 x6 a1 a2 a3 a4 a5 a6 (nI q) st (0 : Int32) pl v (5 : Int32)) (f_X11_readClause u (nI n) (nI q) (-1 : Int32) bk m18 m19 m20 m21 m22 m23 m24 t2 b3 b4 b5 b6 (nI (ofW 12))) := by
  obtain ⟨rfl, rfl, rfl, rfl, rfl, rfl, X6, XK, XP, XO⟩ := X
  obtain ⟨rfl, rfl, MD, rfl, rfl, rfl, rfl, MK, MP, MO⟩ := M
  rw [bX5_readClause_22, t_good, z_b, if_neg d_10, if_neg (show ¬ (5 : Int32) = 0 by decide), if_neg (show ¬ (5 : Int32) = 1 by decide), if_neg (show ¬ (5 : Int32) = 2 by decide), if_neg (show ¬ (5 : Int32) = 3 by decide), if_neg (show ¬ (5 : Int32) = 4 by decide), if_pos (show (5 : Int32) = 5 from rfl), f_X11_readClause, bX11_readClause_0, of_7 (by omega), z_b, if_neg (ow_ne ow_12 ow_7 (by omega) (by omega) (by omega)), of_8 (by omega), z_b, if_neg (ow_ne ow_12 ow_8 (by omega) (by omega) (by omega)), of_9 (by omega), z_b, if_neg (ow_ne ow_12 ow_9 (by omega) (by omega) (by omega)), of_10 (by omega), z_b, if_neg (ow_ne ow_12 ow_10 (by omega) (by omega) (by omega)), of_11 (by omega), z_b, if_neg (ow_ne ow_12 ow_11 (by omega) (by omega) (by omega)), of_12 (by omega), z_b, if_pos rfl]
  refine nb (P := OUTC n pl) (lo := 0) (hi := 20) T hu hq rfl rfl (by omega) (by omega) (fun w q h1 h2 h3 h4 => ?_) (fun k f q q' hk hf hq => ?_)
  · exact ⟨_, _, rfl, rfl, Or.inl ⟨(pW p, pH p, pO p, pC p, w, pK p, pB p, pP p, pT p, pZ p, pN p, pD p), s, q, ⟨P.1, P.2.1, P.2.2.1, h2, P.2.2.2.2⟩, hs, by assumption, ⟨rfl, rfl, rfl, rfl, rfl, rfl, X6, XK, XP, XO⟩, ⟨rfl, rfl, MD, rfl, rfl, rfl, rfl, MK, MP, MO⟩, rfl, rfl, rfl, rfl, rfl⟩⟩
  · exact ⟨_, _, rfl, rfl, Or.inr ⟨k, f, q, pH p, by omega, by omega, hf, hq, P.2.1.2, rfl, rfl, rfl, rfl, rfl, rfl⟩⟩
theorem cl_0 (T : TXT b n t1 t2) (hu : 700 ≤ u) (P : pOK p) (hs : s ≤ 4) (X : PX p s x0 x1 x7 x8 x9 x10 x6 a1 a2 a3 a4 a5 a6) (M : PM p s m18 m19 m20 m21 m22 m23 m24 b3 b4 b5 b6) (z : ∀ c, c < 48 → pK p c = 0 ∧ pB p c = 0) {q : Nat} (hq : q ≤ n) (st pl bk v : Int32) : OUTC n pl (bX5_readClause_22 u (nI n) t1 x0 x1 x7 x8 x9 x10 x6 a1 a2 a3 a4 a5 a6 (nI q) st (0 : Int32) pl (0 : Int32) (0 : Int32)) (f_X11_readClause u (nI n) (nI q) (-1 : Int32) bk m18 m19 m20 m21 m22 m23 m24 t2 b3 b4 b5 b6 (nI (ofW 7))) := by
  obtain ⟨rfl, rfl, rfl, rfl, rfl, rfl, X6, XK, XP, XO⟩ := X
  obtain ⟨rfl, rfl, MD, rfl, rfl, rfl, rfl, MK, MP, MO⟩ := M
  rw [bX5_readClause_22, t_good, z_b, if_neg d_10, if_pos (show (0 : Int32) = 0 from rfl), f_X11_readClause, bX11_readClause_0, of_7 (by omega), z_b, if_pos rfl]
  rw [f_X5_readSize, bX5_readSize_0, if_pos (show (0 : Int32) ≤ 0 by decide)]
  simp only [kb_assoc]
  refine nb (P := OUTC n pl) (lo := 1) (hi := 8) T hu hq rfl rfl (by omega) (by omega) (fun w q h1 h2 h3 h4 => ?_) (fun k f q q' hk hf hq => ?_)
  · refine nb (P := OUTC n pl) (lo := 1) (hi := 6) T hu h4 rfl rfl (by omega) (by omega) (fun w2 q2 i1 i2 i3 i4 => ?_) (fun k f q q' hk hf hq => ?_)
    · exact ⟨_, _, rfl, rfl, Or.inl ⟨(w, w2, pO p, pC p, pSt p, pK p, pB p, pP p, pT p, pZ p, pN p, pD p), s, q2, ⟨⟨h1, h2⟩, ⟨i1, i2⟩, P.2.2.1, P.2.2.2.1, P.2.2.2.2.1, fun c hc => by obtain ⟨z1, z2⟩ := z c hc; exact ⟨(P.2.2.2.2.2.1 c hc).1, (P.2.2.2.2.2.1 c hc).2.1, (P.2.2.2.2.2.1 c hc).2.2.1, fun _ => ⟨z1, z2⟩⟩, P.2.2.2.2.2.2⟩, hs, by assumption, ⟨rfl, rfl, rfl, rfl, rfl, rfl, X6, XK, XP, XO⟩, ⟨rfl, rfl, MD, rfl, rfl, rfl, rfl, MK, MP, MO⟩, rfl, rfl, rfl, rfl, rfl⟩⟩
    · exact ⟨_, _, rfl, rfl, Or.inr ⟨k, f, q, 1, by omega, by omega, hf, hq, (by omega), rfl, rfl, rfl, rfl, rfl, rfl⟩⟩
  · refine nbF (P := OUTC n pl) T hu hq (kf_1 hk) (by have := T.1; omega) (fun q st hq => ?_)
    exact ⟨_, _, rfl, rfl, Or.inr ⟨k, f, q, 1, by omega, by omega, hf, hq, (by omega), rfl, rfl, rfl, rfl, rfl, rfl⟩⟩
theorem cl_6 (T : TXT b n t1 t2) (hu : 700 ≤ u) (P : pOK p) (hs : s ≤ 4) (X : PX p s x0 x1 x7 x8 x9 x10 x6 a1 a2 a3 a4 a5 a6) (M : PM p s m18 m19 m20 m21 m22 m23 m24 b3 b4 b5 b6) {q : Nat} (hq : q ≤ n) (st pl bk v : Int32) : OUTC n pl (bX5_readClause_22 u (nI n) t1 x0 x1 x7 x8 x9 x10 x6 a1 a2 a3 a4 a5 a6 (nI q) st (0 : Int32) pl v (6 : Int32)) (f_X11_readClause u (nI n) (nI q) (-1 : Int32) bk m18 m19 m20 m21 m22 m23 m24 t2 b3 b4 b5 b6 (nI (ofW 13))) := by
  obtain ⟨rfl, rfl, rfl, rfl, rfl, rfl, X6, XK, XP, XO⟩ := X
  obtain ⟨rfl, rfl, MD, rfl, rfl, rfl, rfl, MK, MP, MO⟩ := M
  rw [bX5_readClause_22, t_good, z_b, if_neg d_10, if_neg (show ¬ (6 : Int32) = 0 by decide), if_neg (show ¬ (6 : Int32) = 1 by decide), if_neg (show ¬ (6 : Int32) = 2 by decide), if_neg (show ¬ (6 : Int32) = 3 by decide), if_neg (show ¬ (6 : Int32) = 4 by decide), if_neg (show ¬ (6 : Int32) = 5 by decide), if_pos (show (6 : Int32) = 6 from rfl), f_X11_readClause, bX11_readClause_0, of_7 (by omega), z_b, if_neg (ow_ne ow_13 ow_7 (by omega) (by omega) (by omega)), of_8 (by omega), z_b, if_neg (ow_ne ow_13 ow_8 (by omega) (by omega) (by omega)), of_9 (by omega), z_b, if_neg (ow_ne ow_13 ow_9 (by omega) (by omega) (by omega)), of_10 (by omega), z_b, if_neg (ow_ne ow_13 ow_10 (by omega) (by omega) (by omega)), of_11 (by omega), z_b, if_neg (ow_ne ow_13 ow_11 (by omega) (by omega) (by omega)), of_12 (by omega), z_b, if_neg (ow_ne ow_13 ow_12 (by omega) (by omega) (by omega)), of_13 (by omega), z_b, if_pos rfl]
  rw [f_X5_readPrice, bX5_readPrice_0]
  simp only [kb_assoc]
  refine nb (P := OUTC n pl) (lo := 1) (hi := 4) T hu hq rfl rfl (by omega) (by omega) (fun w q h1 h2 h3 h4 => ?_) (fun k f q q' hk hf hq => ?_)
  · refine nb (P := OUTC n pl) (lo := 0) (hi := 99) T hu h4 rfl rfl (by omega) (by omega) (fun w2 q2 i1 i2 i3 i4 => ?_) (fun k f q q' hk hf hq => ?_)
    · dsimp only
      rw [z_ki (show w < 6 by omega) (by omega), z_b, t_fine, z_b, if_neg d_10, z_ki (show w < 5 by omega) (by omega), z_cl (by omega)]
      exact ⟨_, _, rfl, rfl, Or.inl ⟨(pW p, pH p, pO p, pC p, pSt p, pK p, pB p, fun k => if k = w then w2 else pP p k, pT p, pZ p, pN p, pD p), s, q2, ⟨P.1, P.2.1, P.2.2.1, P.2.2.2.1, P.2.2.2.2.1, P.2.2.2.2.2.1, fun k hk => by show (if k = w then w2 else pP p k) ≤ 99; by_cases y : k = w; (· rw [if_pos y]; exact i2); (· rw [if_neg y]; exact P.2.2.2.2.2.2 k hk)⟩, hs, by assumption, ⟨rfl, rfl, rfl, rfl, rfl, rfl, X6, XK, up5 XP, XO⟩, ⟨rfl, rfl, MD, rfl, rfl, rfl, rfl, MK, up5 MP, MO⟩, rfl, rfl, rfl, rfl, rfl⟩⟩
    · dsimp only
      rw [z_ki (show w < 6 by omega) (by omega), z_b, t_fineF (show f < 2147483648 by have := T.1; omega), z_b, if_pos rfl]
      exact ⟨_, _, rfl, rfl, Or.inr ⟨k, f, q, pH p, by omega, by omega, hf, hq, P.2.1.2, rfl, rfl, rfl, rfl, rfl, rfl⟩⟩
  · refine nbF (P := OUTC n pl) T hu hq (kf_1 hk) (by have := T.1; omega) (fun q st hq => ?_)
    dsimp only
    rw [z_ki (show 1 < 6 by omega) (by omega), z_b, t_fineF (show f < 2147483648 by have := T.1; omega), z_b, if_pos rfl]
    exact ⟨_, _, rfl, rfl, Or.inr ⟨k, f, q, pH p, by omega, by omega, hf, hq, P.2.1.2, rfl, rfl, rfl, rfl, rfl, rfl⟩⟩
theorem cl_2 (T : TXT b n t1 t2) (hu : 700 ≤ u) (P : pOK p) (hs : s ≤ 4) (X : PX p s x0 x1 x7 x8 x9 x10 x6 a1 a2 a3 a4 a5 a6) (M : PM p s m18 m19 m20 m21 m22 m23 m24 b3 b4 b5 b6) {q : Nat} (hq : q ≤ n) (st pl bk v : Int32) : OUTC n pl (bX5_readClause_22 u (nI n) t1 x0 x1 x7 x8 x9 x10 x6 a1 a2 a3 a4 a5 a6 (nI q) st (0 : Int32) pl v (2 : Int32)) (f_X11_readClause u (nI n) (nI q) (-1 : Int32) bk m18 m19 m20 m21 m22 m23 m24 t2 b3 b4 b5 b6 (nI (ofW 9))) := by
  obtain ⟨rfl, rfl, rfl, rfl, rfl, rfl, X6, XK, XP, XO⟩ := X
  obtain ⟨rfl, rfl, MD, rfl, rfl, rfl, rfl, MK, MP, MO⟩ := M
  rw [bX5_readClause_22, t_good, z_b, if_neg d_10, if_neg (show ¬ (2 : Int32) = 0 by decide), if_neg (show ¬ (2 : Int32) = 1 by decide), if_pos (show (2 : Int32) = 2 from rfl), f_X11_readClause, bX11_readClause_0, of_7 (by omega), z_b, if_neg (ow_ne ow_9 ow_7 (by omega) (by omega) (by omega)), of_8 (by omega), z_b, if_neg (ow_ne ow_9 ow_8 (by omega) (by omega) (by omega)), of_9 (by omega), z_b, if_pos rfl]
  have hw := P.1
  have hh := P.2.1
  rw [f_X5_readWater, bX5_readWater_0]
  simp only [kb_assoc]
  refine nb (P := OUTC n pl) (lo := 0) (hi := pW p - 1) T hu hq rfl (z_sub (b := 1) (by omega)) (by omega) (by omega) (fun w q h1 h2 h3 h4 => ?_) (fun k f q q' hk hf hq => ?_)
  · refine nb (P := OUTC n pl) (lo := 0) (hi := pH p - 1) T hu h4 rfl (z_sub (b := 1) (by omega)) (by omega) (by omega) (fun w2 q2 i1 i2 i3 i4 => ?_) (fun k f q q' hk hf hq => ?_)
    · dsimp only
      rw [x_lay (show w < 8 by omega) (show w2 < 6 by omega), z_b, z_b, t_fine, z_b, if_neg d_10, e_8 w2 w, z_ki (show 8 * w2 + w < 48 by omega) (by omega), z_ki (show 8 * w2 + w < 48 by omega) (by omega), z_cl (by omega)]
      exact ⟨_, _, rfl, rfl, Or.inl ⟨(pW p, pH p, pO p, pC p, pSt p, fun c => if c = 8 * w2 + w then 5 else pK p c, fun c => if c = 8 * w2 + w then 0 else pB p c, pP p, pT p, pZ p, pN p, pD p), s, q2, ⟨P.1, P.2.1, P.2.2.1, P.2.2.2.1, P.2.2.2.2.1, fun c hc => by
        show (if c = 8 * w2 + w then 5 else pK p c) ≤ 5 ∧ (if c = 8 * w2 + w then 0 else pB p c) ≤ 9 ∧ (0 < (if c = 8 * w2 + w then 0 else pB p c) → 1 ≤ (if c = 8 * w2 + w then 5 else pK p c) ∧ (if c = 8 * w2 + w then 5 else pK p c) ≤ 4) ∧ (inG (pW p) (pH p) c = false → (if c = 8 * w2 + w then 5 else pK p c) = 0 ∧ (if c = 8 * w2 + w then 0 else pB p c) = 0)
        by_cases y : c = 8 * w2 + w
        · simp only [if_pos y]
          refine ⟨by omega, by omega, fun q => by omega, fun q => ?_⟩
          unfold inG at q
          rw [decide_eq_true (show c % 8 < pW p by omega), decide_eq_true (show c / 8 < pH p by omega)] at q
          cases q
        · simp only [if_neg y]
          exact P.2.2.2.2.2.1 c hc, P.2.2.2.2.2.2⟩, hs, by assumption, ⟨rfl, rfl, rfl, rfl, rfl, rfl, X6, ⟨up48 5 XK.1, up48 0 XK.2⟩, XP, XO⟩, ⟨rfl, rfl, MD, rfl, rfl, rfl, rfl, ⟨up48 5 MK.1, up48 0 MK.2⟩, MP, MO⟩, rfl, rfl, rfl, rfl, rfl⟩⟩
    · dsimp only
      rw [x_lay (y := 0) (show w < 8 by omega) (by omega) a1 a2 _ _, z_b, z_b, t_fineF (show f < 2147483648 by have := T.1; omega), z_b, if_pos rfl]
      exact ⟨_, _, rfl, rfl, Or.inr ⟨k, f, q, pH p, by omega, by omega, hf, hq, P.2.1.2, rfl, rfl, rfl, rfl, rfl, rfl⟩⟩
  · refine nbF (P := OUTC n pl) T hu hq (kf_1 hk) (by have := T.1; omega) (fun q st hq => ?_)
    dsimp only
    rw [show f_X5_lay u a1 a2 (nI 0) (0 : Int32) (5 : Int32) (0 : Int32) = _ from x_lay (x := 0) (y := 0) (by omega) (by omega) a1 a2 _ _, z_b, z_b, t_fineF (show f < 2147483648 by have := T.1; omega), z_b, if_pos rfl]
    exact ⟨_, _, rfl, rfl, Or.inr ⟨k, f, q, pH p, by omega, by omega, hf, hq, P.2.1.2, rfl, rfl, rfl, rfl, rfl, rfl⟩⟩
theorem cl_3 (T : TXT b n t1 t2) (hu : 700 ≤ u) (P : pOK p) (hs : s ≤ 4) (X : PX p s x0 x1 x7 x8 x9 x10 x6 a1 a2 a3 a4 a5 a6) (M : PM p s m18 m19 m20 m21 m22 m23 m24 b3 b4 b5 b6) (h4 : s < 4) {q : Nat} (hq : q ≤ n) (st pl bk v : Int32) : OUTC n pl (bX5_readClause_22 u (nI n) t1 x0 x1 x7 x8 x9 x10 x6 a1 a2 a3 a4 a5 a6 (nI q) st (0 : Int32) pl v (3 : Int32)) (f_X11_readClause u (nI n) (nI q) (-1 : Int32) bk m18 m19 m20 m21 m22 m23 m24 t2 b3 b4 b5 b6 (nI (ofW 10))) := by
  obtain ⟨rfl, rfl, rfl, rfl, rfl, rfl, X6, XK, XP, XO⟩ := X
  obtain ⟨rfl, rfl, MD, rfl, rfl, rfl, rfl, MK, MP, MO⟩ := M
  rw [bX5_readClause_22, t_good, z_b, if_neg d_10, if_neg (show ¬ (3 : Int32) = 0 by decide), if_neg (show ¬ (3 : Int32) = 1 by decide), if_neg (show ¬ (3 : Int32) = 2 by decide), if_pos (show (3 : Int32) = 3 from rfl), f_X11_readClause, bX11_readClause_0, of_7 (by omega), z_b, if_neg (ow_ne ow_10 ow_7 (by omega) (by omega) (by omega)), of_8 (by omega), z_b, if_neg (ow_ne ow_10 ow_8 (by omega) (by omega) (by omega)), of_9 (by omega), z_b, if_neg (ow_ne ow_10 ow_9 (by omega) (by omega) (by omega)), of_10 (by omega), z_b, if_pos rfl]
  have hw := P.1
  rw [f_X5_readShaft, bX5_readShaft_0, if_pos (show nI s < (4 : Int32) from nI_lt (b := 4) h4 (by omega))]
  simp only [kb_assoc]
  refine nb (P := OUTC n pl) (lo := 0) (hi := pW p - 1) T hu hq rfl (z_sub (b := 1) (by omega)) (by omega) (by omega) (fun w q h1 h2 h3 h4 => ?_) (fun k f q q' hk hf hq => ?_)
  · dsimp only
    rw [z_b, t_fine, z_b, if_neg d_10]
    unfold bX11_readClause_158
    exact ⟨_, _, rfl, rfl, Or.inl ⟨(pW p, pH p, pO p, pC p, pSt p, pK p, pB p, pP p, pT p, pZ p, pN p, fun x => pD p x || decide (x = w)), s + 1, q, P, (by omega), by assumption, ⟨rfl, rfl, nI_1 s, rfl, rfl, rfl, lS_cong (lS_or X6 (lS_bit (show w < 48 by omega))) (fun k hk => by
      show ((decide (k < 8) && pD p k) || decide (k = w)) = (decide (k < 8) && (pD p k || decide (k = w)))
      by_cases y : k < 8
      · rw [decide_eq_true y, Bool.true_and, Bool.true_and]
      · rw [decide_eq_false y, Bool.false_and, Bool.false_and, Bool.false_or]
        exact decide_eq_false (by omega)), XK, XP, XO⟩, ⟨rfl, rfl, shA_or MD (by omega), nI_1 s, rfl, rfl, rfl, MK, MP, MO⟩, rfl, rfl, rfl, rfl, rfl⟩⟩
  · dsimp only
    rw [z_b, t_fineF (show f < 2147483648 by have := T.1; omega), z_b, if_pos rfl]
    unfold bX11_readClause_158
    exact ⟨_, _, rfl, rfl, Or.inr ⟨k, f, q, pH p, by omega, by omega, hf, hq, P.2.1.2, rfl, rfl, rfl, rfl, rfl, rfl⟩⟩
end PTA
