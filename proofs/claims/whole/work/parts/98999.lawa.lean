/-! LAWS, read -/
section LWR
abbrev xT : Type := Int32 × (Nat → Int32) × Int32 × Int32 × Int32 × Int32
abbrev yT : Type := Int32 × Int32 × Int32 × Int32 × Int32 × (Nat → Int32) × (Nat → Int32)
variable {u n : Nat} {b : Nat → Nat} {a1 a2 : Nat → Int32}
theorem wl_of {w p : Nat} (h6 : (k_bs w).length ≤ 6) (h1 : 1 ≤ (k_bs w).length) (hc : ∀ i, i < (k_bs w).length → 97 ≤ cn w i ∧ cn w i ≤ 122) (h : pkW b n p = ofW w) : wl b n p = (k_bs w).length := by
  have hq := wl_c b n p
  unfold pkW ofW at h
  have hpos : 0 < bV (fun i => cn w i - 96) (k_bs w).length := by
    obtain ⟨k, hk⟩ : ∃ k, (k_bs w).length = k + 1 := ⟨(k_bs w).length - 1, by omega⟩
    have := hc k (by omega)
    rw [hk]
    show 0 < 32 * bV (fun i => cn w i - 96) k + (cn w k - 96)
    omega
  by_cases z : wl b n p ≤ 6
  · rw [if_pos z] at h
    exact (bV_inj _ _ (fun i hi => by have := hq i hi; exact ⟨by omega, by omega⟩) (fun i hi => by have := hc i hi; exact ⟨by omega, by omega⟩) h).1
  · rw [if_neg z] at h; omega
/-! behind a fault -/
def xFt (n : Nat) (f pl : Int32) (r : Option xT) : Prop := ∃ k A p st, k ≤ 150 ∧ p ≤ n ∧ r = some (nI k, A, nI p, st, f, pl)
theorem putF {k : Nat} (hk : k ≤ 150) (A : Nat → Int32) (v : Int32) : ∃ k' A', k' ≤ 150 ∧ f_X1_put u (nI k) A v = some (nI k', A') := by
  unfold f_X1_put bX1_put_0
  by_cases z : 150 ≤ k
  · rw [if_pos (show (150 : Int32) ≤ nI k from nI_le (a := 150) z (by omega))]
    exact ⟨k, A, hk, rfl⟩
  · rw [if_neg (show ¬ (150 : Int32) ≤ nI k from nI_ge (b := 150) (by omega) (by omega)), z_ki (by omega) (by omega), show nI k + (1 : Int32) = nI (k + 1) from nI_1 k]
    exact ⟨k + 1, _, by omega, rfl⟩
def gXF (n : Nat) (a1 : Nat → Int32) (g : (Int32 → (Nat → Int32) → Int32 → Int32 → Int32 → Int32 → Int32 → (Nat → Int32) → Int32 → Option (Int32 × (Nat → Int32) × Int32 × Int32 × Int32 × Int32))) (e : Nat) : Prop := ∀ (k : Nat) (A : Nat → Int32) (p : Nat) (st f pl : Int32), k ≤ 150 → p ≤ n → ¬ f = 0 → xFt n f pl (g (nI k) A (nI n) (nI p) st f pl a1 (nI e))
theorem unitXF (T : TXT b n a1 a2) (hu : 700 ≤ u) {g : (Int32 → (Nat → Int32) → Int32 → Int32 → Int32 → Int32 → Int32 → (Nat → Int32) → Int32 → Option (Int32 × (Nat → Int32) × Int32 × Int32 × Int32 × Int32))} {e : Nat} (he : e ≤ 6) (hg : e < 6 → gXF n a1 g (e + 1)) : gXF n a1 (f_X1_readUnit u g) e := by
  intro k A p st f pl hk hp hf
  have hs := sk_le b hp
  unfold f_X1_readUnit bX1_readUnit_0
  rw [t_digitX T hu hp, z_b]
  cases hd : atD b n (sk b n p) with
  | true =>
    rw [if_neg (show ¬ zB true = (0 : Int32) from d_10)]
    obtain ⟨q, hq, e1⟩ := t_numF T hu hs hf st pl (0 : Int32) (999 : Int32)
    rw [e1, z_b]
    obtain ⟨k', A', hk', e2⟩ := putF (u := u) hk A (0 : Int32)
    rw [e2, z_b]
    exact ⟨k', A', q, _, hk', hq, rfl⟩
  | false =>
    rw [if_pos (show zB false = (0 : Int32) from rfl), t_isNext T hu hs (c := 40) (k := 40) rfl (by omega) (by omega), z_b, sk_id b hp]
    cases hc : atC b n (sk b n p) 40 with
    | true =>
      rw [if_neg (show ¬ zB true = (0 : Int32) from d_10)]
      unfold f_X1_readBracket bX1_readBracket_0
      by_cases z : e < 6
      · rw [if_pos (show nI e < (6 : Int32) from nI_lt (b := 6) z (by omega))]
        obtain ⟨q, hq, e1⟩ := t_signF T hu hs (c := 40) (k := 40) rfl (by omega) (by omega) hf (pl := pl)
        rw [e1, z_b, show nI e + (1 : Int32) = nI (e + 1) from nI_1 e]
        obtain ⟨k', A', p', st', h1, h2, h3⟩ := hg z k A q st f pl hk hq hf
        rw [h3, z_b]
        obtain ⟨q2, hq2, e2⟩ := t_signF T hu h2 (c := 41) (k := 41) rfl (by omega) (by omega) hf (pl := pl)
        rw [e2, z_b, z_b]
        exact ⟨k', A', q2, st', h1, hq2, rfl⟩
      · rw [if_neg (show ¬ nI e < (6 : Int32) from nI_nlt (b := 6) (by omega) (by omega))]
        unfold f_X8_failHere bX8_failHere_0
        rw [t_peek T hu hs, z_b, t_failF hf, z_b, z_b, z_b]
        exact ⟨k, A, _, st, hk, sk_le b hs, rfl⟩
    | false =>
      rw [if_pos (show zB false = (0 : Int32) from rfl)]
      obtain ⟨q, hq, e1⟩ := t_wordF T hu (si := 3) hs (by decide) st hf pl
      rw [e1, z_b, t_goodF hf, z_b, if_pos rfl]
      exact ⟨k, A, q, _, hk, hq, rfl⟩
theorem productXF (T : TXT b n a1 a2) (hu : 700 ≤ u) {g : (Int32 → (Nat → Int32) → Int32 → Int32 → Int32 → Int32 → Int32 → (Nat → Int32) → Int32 → Option (Int32 × (Nat → Int32) × Int32 × Int32 × Int32 × Int32))} {e : Nat} (he : e ≤ 6) (hg : e < 6 → gXF n a1 g (e + 1)) : gXF n a1 (f_X1_readProduct u g) e := by
  intro k A p st f pl hk hp hf
  obtain ⟨k', A', p', st', h1, h2, h3⟩ := unitXF T hu he hg k A p st f pl hk hp hf
  obtain ⟨m, rfl⟩ : ∃ m, u = m + 1 := ⟨u - 1, by omega⟩
  unfold f_X1_readProduct bX1_readProduct_0
  rw [h3, z_b, bX1_readProduct_8, if_neg (show ¬ (150 : Int32) ≤ 0 by decide), t_goodF hf, z_b, if_pos rfl]
  exact ⟨k', A', p', st', h1, h2, rfl⟩
theorem sumXF (T : TXT b n a1 a2) (hu : 700 ≤ u) {g : (Int32 → (Nat → Int32) → Int32 → Int32 → Int32 → Int32 → Int32 → (Nat → Int32) → Int32 → Option (Int32 × (Nat → Int32) × Int32 × Int32 × Int32 × Int32))} {e : Nat} (he : e ≤ 6) (hg : e < 6 → gXF n a1 g (e + 1)) : gXF n a1 (f_X1_readSum u g) e := by
  intro k A p st f pl hk hp hf
  obtain ⟨k', A', p', st', h1, h2, h3⟩ := productXF T hu he hg k A p st f pl hk hp hf
  obtain ⟨m, rfl⟩ : ∃ m, u = m + 1 := ⟨u - 1, by omega⟩
  unfold f_X1_readSum bX1_readSum_0
  rw [h3, z_b, bX1_readSum_8, if_neg (show ¬ (150 : Int32) ≤ 0 by decide), t_goodF hf, z_b, if_pos rfl]
  exact ⟨k', A', p', st', h1, h2, rfl⟩
theorem readXF (T : TXT b n a1 a2) (hu : 700 ≤ u) : ∀ d e, 7 ≤ d + e → e ≤ 6 → gXF n a1 (f_X1_readSum_r u d) e := by
  intro d
  induction d with
  | zero => intro e h1 h2; omega
  | succ d ih =>
    intro e h1 h2
    exact sumXF T hu h2 (fun h => ih (e + 1) (by omega) (by omega))
/-- the reference, behind a fault -/
def gMF (n : Nat) (a2 : Nat → Int32) (g : (Int32 → Int32 → Int32 → Int32 → Int32 → Int32 → (Nat → Int32) → (Nat → Int32) → (Nat → Int32) → Option (Int32 × Int32 × Int32 × Int32 × Int32 × (Nat → Int32) × (Nat → Int32)))) : Prop := ∀ (at' : Int32) (f : Nat) (bk op c37 : Int32) (A11 A12 : Nat → Int32), f < 2147483648 → g (nI n) at' (nI f) bk op c37 a2 A11 A12 = some (at', nI f, bk, op, c37, A11, A12)
theorem sumMF {g : (Int32 → Int32 → Int32 → Int32 → Int32 → Int32 → (Nat → Int32) → (Nat → Int32) → (Nat → Int32) → Option (Int32 × Int32 × Int32 × Int32 × Int32 × (Nat → Int32) × (Nat → Int32)))} (hu : 1 ≤ u) : gMF n a2 (f_X11_readSum u g) := by
  intro at' f bk op c37 A11 A12 hf
  obtain ⟨m, rfl⟩ : ∃ m, u = m + 1 := ⟨u - 1, by omega⟩
  unfold f_X11_readSum bX11_readSum_0 f_X11_readProduct bX11_readProduct_0 f_X11_readUnit bX11_readUnit_0
  rw [t_fineF hf, z_b, if_pos rfl, z_b, bX11_readProduct_4, t_fineF hf, z_b, if_pos rfl, z_b, bX11_readSum_4, t_fineF hf, z_b, if_pos rfl]
theorem readMF (hu : 1 ≤ u) {d : Nat} (hd : 1 ≤ d) : gMF n a2 (f_X11_readSum_r u d) := by
  obtain ⟨d, rfl⟩ : ∃ k, d = k + 1 := ⟨d - 1, by omega⟩
  exact sumMF hu
theorem emitF {f : Nat} (hf : f < 2147483648) (c37 v w : Int32) (A11 A12 : Nat → Int32) : f_X11_emit u (nI f) c37 A11 A12 v w = some (c37, A11, A12) := by
  unfold f_X11_emit bX11_emit_0
  rw [t_fineF hf, z_b, if_pos rfl]
/-! in step -/
def CI (k : Nat) (q o : Nat → Nat) (A A11 A12 : Nat → Int32) : Prop := cOK q o k ∧ ∀ j, j < k → A j = cnum (q j) (o j) ∧ A11 j = nI (q j) ∧ A12 j = nI (o j)
theorem hts_c {q q' : Nat → Nat} : ∀ k, (∀ j, j < k → q j = q' j) → hts q k = hts q' k
  | 0, _ => rfl
  | k + 1, h => by
    show (if q k ≤ 1 then hts q k + 1 else hts q k - 1) = (if q' k ≤ 1 then hts q' k + 1 else hts q' k - 1)
    rw [h k (by omega), hts_c k (fun j hj => h j (by omega))]
/-- one more row -/
theorem CI_put {k : Nat} {q o : Nat → Nat} {A A11 A12 : Nat → Int32} (C : CI k q o A A11 A12) (hk : k < 150) {v w : Nat} (hv : v ≤ 7) (h0 : v = 0 → w ≤ 999) (h1 : v = 1 → w < 8) (h2 : v ≤ 1 → hts q k < 24) (h3 : 2 ≤ v → 2 ≤ hts q k) : f_X1_put u (nI k) A (cnum v w) = some (nI (k + 1), upd A k (cnum v w)) ∧ f_X11_emit u (-1 : Int32) (nI k) A11 A12 (nI v) (nI w) = some (nI (k + 1), upd A11 k (nI v), upd A12 k (nI w)) ∧ ∃ q' o', CI (k + 1) q' o' (upd A k (cnum v w)) (upd A11 k (nI v)) (upd A12 k (nI w)) ∧ hts q' (k + 1) = if v ≤ 1 then hts q k + 1 else hts q k - 1 := by
  refine ⟨?_, ?_, fun j => if j = k then v else q j, fun j => if j = k then w else o j, ?_, ?_⟩
  · unfold f_X1_put bX1_put_0
    rw [if_neg (show ¬ (150 : Int32) ≤ nI k from nI_ge (b := 150) hk (by omega)), z_ki hk (by omega), z_cl (by omega), show nI k + (1 : Int32) = nI (k + 1) from nI_1 k]
  · unfold f_X11_emit bX11_emit_0
    rw [t_fine, z_b, if_neg d_10, z_ki hk (by omega), z_ki hk (by omega), z_cl (by omega), show nI k + (1 : Int32) = nI (k + 1) from nI_1 k]
  · obtain ⟨⟨c1, c2⟩, c3⟩ := C
    have eh : ∀ j, j ≤ k → hts (fun j => if j = k then v else q j) j = hts q j := fun j hj => hts_c j (fun i hi => if_neg (by omega))
    refine ⟨⟨by omega, fun j hj => ?_⟩, fun j hj => ?_⟩
    · rw [eh j (by omega)]
      by_cases z : j = k
      · subst z
        simp only [if_true]
        exact ⟨hv, h0, h1, h2, h3⟩
      · simp only [if_neg z]
        exact c2 j (by omega)
    · simp only [z_upd]
      by_cases z : j = k
      · simp only [if_pos z]
        exact ⟨trivial, trivial, trivial⟩
      · simp only [if_neg z]
        exact c3 j (by omega)
  · show (if (if k = k then v else q k) ≤ 1 then _ else _) = _
    rw [if_pos rfl, hts_c k (fun i hi => if_neg (by omega))]
def OUT (n : Nat) (pl : Int32) (e k p H s : Nat) (x : Option xT) (m : Option yT) : Prop :=
  (∃ k' p' q' o' A' st' bk' A11' A12', x = some (nI k', A', nI p', st', (0 : Int32), pl) ∧ m = some (nI p', (-1 : Int32), bk', nI e, nI k', A11', A12') ∧ CI k' q' o' A' A11' A12' ∧ hts q' k' = H ∧ k' + p + s ≤ p' + k + s ∧ p + s ≤ p' ∧ p' ≤ n) ∨
  (∃ k' p' f pf A' st' at' op' c37' A11' A12', k' ≤ 150 ∧ p' ≤ n ∧ pf ≤ n ∧ 1 ≤ f ∧ f ≤ 4 ∧ x = some (nI k', A', nI p', st', nI f, nI pf) ∧ m = some (at', nI pf, nI f, op', c37', A11', A12'))
def gSM (n : Nat) (a1 a2 : Nat → Int32) (pl : Int32) (g : (Int32 → (Nat → Int32) → Int32 → Int32 → Int32 → Int32 → Int32 → (Nat → Int32) → Int32 → Option (Int32 × (Nat → Int32) × Int32 × Int32 × Int32 × Int32))) (gm : (Int32 → Int32 → Int32 → Int32 → Int32 → Int32 → (Nat → Int32) → (Nat → Int32) → (Nat → Int32) → Option (Int32 × Int32 × Int32 × Int32 × Int32 × (Nat → Int32) × (Nat → Int32)))) (e c : Nat) : Prop := ∀ (k : Nat) (q o : Nat → Nat) (A A11 A12 : Nat → Int32) (p : Nat) (st bk : Int32), CI k q o A A11 A12 → hts q k ≤ 3 * e + c → k ≤ p → p ≤ n → OUT n pl e k p (hts q k + 1) 1 (g (nI k) A (nI n) (nI p) st (0 : Int32) pl a1 (nI e)) (gm (nI n) (nI p) (-1 : Int32) bk (nI e) (nI k) a2 A11 A12)
theorem kf_0 {f : Nat} (h : 1 ≤ f) (h4 : f ≤ 4) : ¬ nI f = (0 : Int32) := fun w => by
  have := (nI_eq (b := 0) (by omega) (by omega)).mp w
  omega
/-- a closing sign behind a part, on both sides -/
theorem sgn_both (T : TXT b n a1 a2) (hu : 700 ≤ u) {p : Nat} (hp : p ≤ n) {c : Int32} {k : Nat} (hc : c = nI k) (h0 : 0 < k) (hk : k < 128) (pl bk : Int32) : (∃ q, p < q ∧ q ≤ n ∧ f_X8_sign u (nI n) (nI p) (0 : Int32) pl a1 c = some (nI q, (0 : Int32), pl) ∧ f_X11_sign u (nI n) (nI p) (-1 : Int32) bk a2 c = some (nI q, (-1 : Int32), bk)) ∨ (∃ f, f ≤ n ∧ f_X8_sign u (nI n) (nI p) (0 : Int32) pl a1 c = some (nI f, nI 1, nI f) ∧ f_X11_sign u (nI n) (nI p) (-1 : Int32) bk a2 c = some (nI f, nI f, nI 1)) := by
  have hs := sk_le b hp
  have hg := sk_ge b n p
  cases z : atC b n (sk b n p) k with
  | true =>
    have hlt : sk b n p < n := by unfold atC at z; exact (of_decide_eq_true z).1
    exact Or.inl ⟨sk b n p + 1, by omega, by omega, t_signX1 T hu hp hc h0 hk _ _ z, t_signM1 T hu hp hc h0 hk _ z⟩
  | false =>
    refine Or.inr ⟨sk b n p, hs, ?_, t_signM0 T hu hp hc h0 hk _ z⟩
    rw [t_signX0 T hu hp hc h0 hk _ _ z, t_fail, z_b]
    rfl
end LWR
