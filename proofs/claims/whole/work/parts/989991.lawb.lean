/-! LAWS, one unit on both sides -/
section LWU
variable {u n : Nat} {b : Nat → Nat} {a1 a2 : Nat → Int32}
theorem pkW_lt (b : Nat → Nat) (n p : Nat) : pkW b n p < 1073741824 := by
  unfold pkW
  by_cases z : wl b n p ≤ 6
  · rw [if_pos z]
    have hc := wl_c b n p
    have := bV_lt (f := fun i => b (p + i) - 96) (wl b n p) (fun i hi => by have := hc i hi; show b (p + i) - 96 ≤ 31; omega)
    have h2 : 32 ^ wl b n p ≤ 32 ^ 6 := Nat.pow_le_pow_right (by omega) z
    have h3 : (32 : Nat) ^ 6 = 1073741824 := rfl
    omega
  · rw [if_neg z]; omega
theorem pk_ne {p w v : Nat} (hv : ofW w = v) (hl : v < 1073741824) (h : ¬ pkW b n p = ofW w) : ¬ nI (pkW b n p) = nI (ofW w) := by
  have := pkW_lt b n p
  rw [hv] at h ⊢
  exact fun z => h ((nI_eq (by omega) (by omega)).mp z)
theorem ow_ne {w v x y : Nat} (h1 : ofW w = x) (h2 : ofW v = y) (hx : x < 1073741824) (hy : y < 1073741824) (h : x ≠ y) : ¬ nI (ofW w) = nI (ofW v) := by
  rw [h1, h2]
  exact fun z => h ((nI_eq (by omega) (by omega)).mp z)
theorem fact_0 (T : TXT b n a1 a2) (hu : 700 ≤ u) {p : Nat} (hp : p ≤ n) (h : pkW b n (sk b n p) = ofW 18) : f_X11_factHere u (nI n) (nI p) a2 = some (nI 0, nI (sk b n p)) := by
  unfold f_X11_factHere bX11_factHere_0
  rw [t_word T hu hp, z_b, h]
  rw [of_18 (by omega), z_b]
  exact if_pos rfl
theorem fact_1 (T : TXT b n a1 a2) (hu : 700 ≤ u) {p : Nat} (hp : p ≤ n) (h : pkW b n (sk b n p) = ofW 19) : f_X11_factHere u (nI n) (nI p) a2 = some (nI 1, nI (sk b n p)) := by
  unfold f_X11_factHere bX11_factHere_0
  rw [t_word T hu hp, z_b, h]
  rw [of_18 (by omega), z_b, if_neg (ow_ne ow_19 ow_18 (by omega) (by omega) (by omega))]
  rw [of_19 (by omega), z_b]
  exact if_pos rfl
theorem fact_2 (T : TXT b n a1 a2) (hu : 700 ≤ u) {p : Nat} (hp : p ≤ n) (h : pkW b n (sk b n p) = ofW 20) : f_X11_factHere u (nI n) (nI p) a2 = some (nI 2, nI (sk b n p)) := by
  unfold f_X11_factHere bX11_factHere_0
  rw [t_word T hu hp, z_b, h]
  rw [of_18 (by omega), z_b, if_neg (ow_ne ow_20 ow_18 (by omega) (by omega) (by omega))]
  rw [of_19 (by omega), z_b, if_neg (ow_ne ow_20 ow_19 (by omega) (by omega) (by omega))]
  rw [of_20 (by omega), z_b]
  exact if_pos rfl
theorem fact_3 (T : TXT b n a1 a2) (hu : 700 ≤ u) {p : Nat} (hp : p ≤ n) (h : pkW b n (sk b n p) = ofW 21) : f_X11_factHere u (nI n) (nI p) a2 = some (nI 3, nI (sk b n p)) := by
  unfold f_X11_factHere bX11_factHere_0
  rw [t_word T hu hp, z_b, h]
  rw [of_18 (by omega), z_b, if_neg (ow_ne ow_21 ow_18 (by omega) (by omega) (by omega))]
  rw [of_19 (by omega), z_b, if_neg (ow_ne ow_21 ow_19 (by omega) (by omega) (by omega))]
  rw [of_20 (by omega), z_b, if_neg (ow_ne ow_21 ow_20 (by omega) (by omega) (by omega))]
  rw [of_21 (by omega), z_b]
  exact if_pos rfl
theorem fact_4 (T : TXT b n a1 a2) (hu : 700 ≤ u) {p : Nat} (hp : p ≤ n) (h : pkW b n (sk b n p) = ofW 22) : f_X11_factHere u (nI n) (nI p) a2 = some (nI 4, nI (sk b n p)) := by
  unfold f_X11_factHere bX11_factHere_0
  rw [t_word T hu hp, z_b, h]
  rw [of_18 (by omega), z_b, if_neg (ow_ne ow_22 ow_18 (by omega) (by omega) (by omega))]
  rw [of_19 (by omega), z_b, if_neg (ow_ne ow_22 ow_19 (by omega) (by omega) (by omega))]
  rw [of_20 (by omega), z_b, if_neg (ow_ne ow_22 ow_20 (by omega) (by omega) (by omega))]
  rw [of_21 (by omega), z_b, if_neg (ow_ne ow_22 ow_21 (by omega) (by omega) (by omega))]
  rw [of_22 (by omega), z_b]
  exact if_pos rfl
theorem fact_5 (T : TXT b n a1 a2) (hu : 700 ≤ u) {p : Nat} (hp : p ≤ n) (h : pkW b n (sk b n p) = ofW 23) : f_X11_factHere u (nI n) (nI p) a2 = some (nI 5, nI (sk b n p)) := by
  unfold f_X11_factHere bX11_factHere_0
  rw [t_word T hu hp, z_b, h]
  rw [of_18 (by omega), z_b, if_neg (ow_ne ow_23 ow_18 (by omega) (by omega) (by omega))]
  rw [of_19 (by omega), z_b, if_neg (ow_ne ow_23 ow_19 (by omega) (by omega) (by omega))]
  rw [of_20 (by omega), z_b, if_neg (ow_ne ow_23 ow_20 (by omega) (by omega) (by omega))]
  rw [of_21 (by omega), z_b, if_neg (ow_ne ow_23 ow_21 (by omega) (by omega) (by omega))]
  rw [of_22 (by omega), z_b, if_neg (ow_ne ow_23 ow_22 (by omega) (by omega) (by omega))]
  rw [of_23 (by omega), z_b]
  exact if_pos rfl
theorem fact_6 (T : TXT b n a1 a2) (hu : 700 ≤ u) {p : Nat} (hp : p ≤ n) (h : pkW b n (sk b n p) = ofW 24) : f_X11_factHere u (nI n) (nI p) a2 = some (nI 6, nI (sk b n p)) := by
  unfold f_X11_factHere bX11_factHere_0
  rw [t_word T hu hp, z_b, h]
  rw [of_18 (by omega), z_b, if_neg (ow_ne ow_24 ow_18 (by omega) (by omega) (by omega))]
  rw [of_19 (by omega), z_b, if_neg (ow_ne ow_24 ow_19 (by omega) (by omega) (by omega))]
  rw [of_20 (by omega), z_b, if_neg (ow_ne ow_24 ow_20 (by omega) (by omega) (by omega))]
  rw [of_21 (by omega), z_b, if_neg (ow_ne ow_24 ow_21 (by omega) (by omega) (by omega))]
  rw [of_22 (by omega), z_b, if_neg (ow_ne ow_24 ow_22 (by omega) (by omega) (by omega))]
  rw [of_23 (by omega), z_b, if_neg (ow_ne ow_24 ow_23 (by omega) (by omega) (by omega))]
  rw [of_24 (by omega), z_b]
  exact if_pos rfl
theorem fact_7 (T : TXT b n a1 a2) (hu : 700 ≤ u) {p : Nat} (hp : p ≤ n) (h : pkW b n (sk b n p) = ofW 25) : f_X11_factHere u (nI n) (nI p) a2 = some (nI 7, nI (sk b n p)) := by
  unfold f_X11_factHere bX11_factHere_0
  rw [t_word T hu hp, z_b, h]
  rw [of_18 (by omega), z_b, if_neg (ow_ne ow_25 ow_18 (by omega) (by omega) (by omega))]
  rw [of_19 (by omega), z_b, if_neg (ow_ne ow_25 ow_19 (by omega) (by omega) (by omega))]
  rw [of_20 (by omega), z_b, if_neg (ow_ne ow_25 ow_20 (by omega) (by omega) (by omega))]
  rw [of_21 (by omega), z_b, if_neg (ow_ne ow_25 ow_21 (by omega) (by omega) (by omega))]
  rw [of_22 (by omega), z_b, if_neg (ow_ne ow_25 ow_22 (by omega) (by omega) (by omega))]
  rw [of_23 (by omega), z_b, if_neg (ow_ne ow_25 ow_23 (by omega) (by omega) (by omega))]
  rw [of_24 (by omega), z_b, if_neg (ow_ne ow_25 ow_24 (by omega) (by omega) (by omega))]
  rw [of_25 (by omega), z_b]
  exact if_pos rfl
theorem fact_no (T : TXT b n a1 a2) (hu : 700 ≤ u) {p : Nat} (hp : p ≤ n) (h18 : ¬ pkW b n (sk b n p) = ofW 18) (h19 : ¬ pkW b n (sk b n p) = ofW 19) (h20 : ¬ pkW b n (sk b n p) = ofW 20) (h21 : ¬ pkW b n (sk b n p) = ofW 21) (h22 : ¬ pkW b n (sk b n p) = ofW 22) (h23 : ¬ pkW b n (sk b n p) = ofW 23) (h24 : ¬ pkW b n (sk b n p) = ofW 24) (h25 : ¬ pkW b n (sk b n p) = ofW 25) : f_X11_factHere u (nI n) (nI p) a2 = some ((-1 : Int32), nI (sk b n p)) := by
  unfold f_X11_factHere bX11_factHere_0
  rw [t_word T hu hp, z_b]
  rw [of_18 (by omega), z_b, if_neg (pk_ne ow_18 (by omega) h18)]
  rw [of_19 (by omega), z_b, if_neg (pk_ne ow_19 (by omega) h19)]
  rw [of_20 (by omega), z_b, if_neg (pk_ne ow_20 (by omega) h20)]
  rw [of_21 (by omega), z_b, if_neg (pk_ne ow_21 (by omega) h21)]
  rw [of_22 (by omega), z_b, if_neg (pk_ne ow_22 (by omega) h22)]
  rw [of_23 (by omega), z_b, if_neg (pk_ne ow_23 (by omega) h23)]
  rw [of_24 (by omega), z_b, if_neg (pk_ne ow_24 (by omega) h24)]
  rw [of_25 (by omega), z_b, if_neg (pk_ne ow_25 (by omega) h25)]
theorem op_f : ∀ i, i < 8 → (-1 : Int32) - nI i = cnum 1 i ∧ ¬ (-1 : Int32) - nI i = (-9 : Int32) ∧ ¬ (-1 : Int32) - nI i = (-10 : Int32) := by decide
theorem op_8 : (-1 : Int32) - nI 8 = (-9 : Int32) := by decide
theorem op_9 : (-1 : Int32) - nI 9 = (-10 : Int32) := by decide
/-! a pair, behind a fault -/
section PF
variable {g : (Int32 → (Nat → Int32) → Int32 → Int32 → Int32 → Int32 → Int32 → (Nat → Int32) → Int32 → Option (Int32 × (Nat → Int32) × Int32 × Int32 × Int32 × Int32))} {e : Nat}
theorem pair4F (T : TXT b n a1 a2) (hu : 700 ≤ u) {k p : Nat} {A : Nat → Int32} {st f pl : Int32} (hk : k ≤ 150) (hp : p ≤ n) (hf : ¬ f = 0) : xFt n f pl (k_b (f_X8_sign u (nI n) (nI p) f pl a1 (93 : Int32)) (fun r47 => some (nI k, A, r47.1, st, r47.2.1, r47.2.2))) := by
  obtain ⟨q, hq, e1⟩ := t_signF T hu hp (c := 93) (k := 93) rfl (by omega) (by omega) hf (pl := pl)
  rw [e1, z_b]
  exact ⟨k, A, q, st, hk, hq, rfl⟩
theorem pair3F (T : TXT b n a1 a2) (hu : 700 ≤ u) (hg : gXF n a1 g (e + 1)) {k p : Nat} {A : Nat → Int32} {st f pl : Int32} (hk : k ≤ 150) (hp : p ≤ n) (hf : ¬ f = 0) : xFt n f pl (k_b (g (nI k) A (nI n) (nI p) st f pl a1 (nI (e + 1))) (fun r41 => k_b (f_X8_sign u (nI n) r41.2.2.1 r41.2.2.2.2.1 r41.2.2.2.2.2 a1 (93 : Int32)) (fun r47 => some (r41.1, r41.2.1, r47.1, r41.2.2.2.1, r47.2.1, r47.2.2)))) := by
  obtain ⟨k', A', p', st', h1, h2, h3⟩ := hg k A p st f pl hk hp hf
  rw [h3, z_b]
  exact pair4F T hu h1 h2 hf
theorem pair2F (T : TXT b n a1 a2) (hu : 700 ≤ u) (hg : gXF n a1 g (e + 1)) {k p : Nat} {A : Nat → Int32} {st f pl : Int32} (hk : k ≤ 150) (hp : p ≤ n) (hf : ¬ f = 0) : xFt n f pl (k_b (f_X8_sign u (nI n) (nI p) f pl a1 (44 : Int32)) (fun r33 => k_b (g (nI k) A (nI n) r33.1 st r33.2.1 r33.2.2 a1 (nI (e + 1))) (fun r41 => k_b (f_X8_sign u (nI n) r41.2.2.1 r41.2.2.2.2.1 r41.2.2.2.2.2 a1 (93 : Int32)) (fun r47 => some (r41.1, r41.2.1, r47.1, r41.2.2.2.1, r47.2.1, r47.2.2))))) := by
  obtain ⟨q, hq, e1⟩ := t_signF T hu hp (c := 44) (k := 44) rfl (by omega) (by omega) hf (pl := pl)
  rw [e1, z_b]
  exact pair3F T hu hg hk hq hf
theorem pair1F (T : TXT b n a1 a2) (hu : 700 ≤ u) (hg : gXF n a1 g (e + 1)) {k p : Nat} {A : Nat → Int32} {st f pl : Int32} (hk : k ≤ 150) (hp : p ≤ n) (hf : ¬ f = 0) : xFt n f pl (k_b (g (nI k) A (nI n) (nI p) st f pl a1 (nI (e + 1))) (fun r27 => k_b (f_X8_sign u (nI n) r27.2.2.1 r27.2.2.2.2.1 r27.2.2.2.2.2 a1 (44 : Int32)) (fun r33 => k_b (g r27.1 r27.2.1 (nI n) r33.1 r27.2.2.2.1 r33.2.1 r33.2.2 a1 (nI (e + 1))) (fun r41 => k_b (f_X8_sign u (nI n) r41.2.2.1 r41.2.2.2.2.1 r41.2.2.2.2.2 a1 (93 : Int32)) (fun r47 => some (r41.1, r41.2.1, r47.1, r41.2.2.2.1, r47.2.1, r47.2.2)))))) := by
  obtain ⟨k', A', p', st', h1, h2, h3⟩ := hg k A p st f pl hk hp hf
  rw [h3, z_b]
  exact pair2F T hu hg h1 h2 hf
end PF
/-- a pair, on both sides, the word read -/
theorem pairS (T : TXT b n a1 a2) (hu : 700 ≤ u) (hn : n ≤ 150) {g : (Int32 → (Nat → Int32) → Int32 → Int32 → Int32 → Int32 → Int32 → (Nat → Int32) → Int32 → Option (Int32 × (Nat → Int32) × Int32 × Int32 × Int32 × Int32))} {gm : (Int32 → Int32 → Int32 → Int32 → Int32 → Int32 → (Nat → Int32) → (Nat → Int32) → (Nat → Int32) → Option (Int32 × Int32 × Int32 × Int32 × Int32 × (Nat → Int32) × (Nat → Int32)))} {e : Nat} (he : e ≤ 6) {pl : Int32} (hM : gMF n a2 gm) (hX : e < 6 → gXF n a1 g (e + 1)) (hg : e < 6 → gSM n a1 a2 pl g gm (e + 1) 0) {k p w : Nat} {q o : Nat → Nat} {A A11 A12 : Nat → Int32} (C : CI k q o A A11 A12) (hh : hts q k ≤ 3 * e + 2) (hk : k ≤ p) (hw : 1 ≤ w) (hp : p + w ≤ n) (bk : Int32) {v : Nat} {c : Int32} (hv : v = 6 ∨ v = 7) (hc : c = cnum v 0) :
    OUT n pl e k p (hts q k + 1) 1 (bX1_readUnit_69 u g (nI n) a1 (nI k) A (nI (p + w)) (nI p) (0 : Int32) pl (nI e) c) (f_X11_readTwo u gm (nI n) (nI p) (-1 : Int32) bk (nI e) (nI k) a2 A11 A12 (nI w) (nI v)) := by
  unfold bX1_readUnit_69 f_X1_readPair bX1_readPair_0 f_X11_readTwo bX11_readTwo_0 f_X11_opensOne bX11_opensOne_0 bX11_opensOne_25 bX11_opensOne_42
  rw [t_fine, z_b, if_neg d_10]
  -- the reference's end behind a fault
  have mE : ∀ (f : Nat) (at' bk' op c37 : Int32) (B11 B12 : Nat → Int32), f ≤ n → k_b (f_X11_sign u (nI n) at' (nI f) bk' a2 (93 : Int32)) (fun r28 => k_b (f_X11_emit u r28.2.1 c37 B11 B12 (nI v) (0 : Int32)) (fun r44 => some (r28.1, r28.2.1, r28.2.2, (op - (1 : Int32)), r44.1, r44.2.1, r44.2.2))) = some (at', nI f, bk', op - (1 : Int32), c37, B11, B12) := by
    intro f at' bk' op c37 B11 B12 hf
    rw [t_signMF (show f < 2147483648 by omega), z_b, emitF (show f < 2147483648 by omega), z_b]
  -- the class's row behind a fault
  have x75 : ∀ (f pf : Nat) (r : Option xT), 1 ≤ f → f ≤ 4 → xFt n (nI f) (nI pf) r → ∃ k' A' p' st', k' ≤ 150 ∧ p' ≤ n ∧ k_b r (fun r72 => bX1_readUnit_75 u g (nI n) a1 r72.1 r72.2.1 r72.2.2.1 r72.2.2.2.1 r72.2.2.2.2.1 r72.2.2.2.2.2 c) = some (nI k', A', nI p', st', nI f, nI pf) := by
    rintro f pf r h1 h4 ⟨k', A', p', st', g1, g2, rfl⟩
    rw [z_b]
    unfold bX1_readUnit_75
    obtain ⟨k2, A2, hk2, e2⟩ := putF (u := u) g1 A' c
    rw [show f_X1_put u (nI k', A', nI p', st', nI f, nI pf).1 (nI k', A', nI p', st', nI f, nI pf).2.1 c = _ from e2, z_b]
    exact ⟨k2, A2, p', st', hk2, g2, rfl⟩
  by_cases z : e < 6
  · have hg' := hg z
    have hX' := hX z
    rw [if_pos (show nI e < (6 : Int32) from nI_lt (b := 6) z (by omega)), if_neg (show ¬ nI e = (6 : Int32) from fun w => by have := (nI_eq (b := 6) (by omega) (by omega)).mp w; omega), z_b, if_neg d_10, z_b, nI_add, show nI e + (1 : Int32) = nI (e + 1) from nI_1 e]
    rcases sgn_both T hu hp (c := 91) (k := 91) rfl (by omega) (by omega) pl bk with ⟨q1, r1, r2, r3, r4⟩ | ⟨f, r2, r3, r4⟩
    · rw [r3, r4, z_b, z_b]
      rcases hg' k q o A A11 A12 q1 (nI p) bk C (by omega) (by omega) r2 with ⟨k2, p2, q2, o2, A2, st2, bk2, B11, B12, s1, s2, s3, s4, s5, s6, s7⟩ | ⟨k2, p2, f, pf, A2, st2, at2, op2, c2, B11, B12, s1, s2, s3, s4, s5, s6, s7⟩
      · rw [s1, s2, z_b, z_b]
        rcases sgn_both T hu s7 (c := 44) (k := 44) rfl (by omega) (by omega) pl bk2 with ⟨q3, v1, v2, v3, v4⟩ | ⟨f, v2, v3, v4⟩
        · rw [v3, v4, z_b, z_b]
          rcases hg' k2 q2 o2 A2 B11 B12 q3 st2 bk2 s3 (by omega) (by omega) v2 with ⟨k3, p3, q3', o3, A3, st3, bk3, D11, D12, w1, w2, w3, w4, w5, w6, w7⟩ | ⟨k3, p3, f, pf, A3, st3, at3, op3, c3, D11, D12, w1, w2, w3, w4, w5, w6, w7⟩
          · rw [w1, w2, z_b, z_b]
            rcases sgn_both T hu w7 (c := 93) (k := 93) rfl (by omega) (by omega) pl bk3 with ⟨q5, y1, y2, y3, y4⟩ | ⟨f, y2, y3, y4⟩
            · rw [y3, y4, z_b, z_b, z_b]
              unfold bX1_readUnit_75
              obtain ⟨t1, t2, q6, o6, t3, t4⟩ := CI_put (u := u) w3 (show k3 < 150 by omega) (v := v) (w := 0) (by omega) (fun _ => by omega) (fun _ => by omega) (by intro h; omega) (by intro _; omega)
              rw [hc]
              rw [show f_X1_put u (nI k3, A3, nI p3, st3, (0 : Int32), pl).1 (nI k3, A3, nI p3, st3, (0 : Int32), pl).2.1 (cnum v 0) = _ from t1, z_b]
              show OUT n pl e k p (hts q k + 1) 1 _ (k_b (f_X11_emit u (-1 : Int32) (nI k3) D11 D12 (nI v) (0 : Int32)) _)
              rw [show f_X11_emit u (-1 : Int32) (nI k3) D11 D12 (nI v) (0 : Int32) = _ from t2, z_b]
              refine Or.inl ⟨k3 + 1, q5, q6, o6, _, _, bk3, _, _, rfl, ?_, t3, ?_, by omega, by omega, y2⟩
              · show some _ = some _
                rw [show nI (e + 1) - (1 : Int32) = nI e from nI_pred e]
              · rw [t4, if_neg (by omega)]; omega
            · rw [y3, z_b, y4, z_b]
              obtain ⟨k', A', p', st', g1, g2, g3⟩ := x75 1 f (some (nI k3, A3, nI f, st3, nI 1, nI f)) (by omega) (by omega) ⟨k3, A3, f, st3, by omega, y2, rfl⟩
              refine Or.inr ⟨k', p', 1, f, A', st', nI f, nI (e + 1) - (1 : Int32), nI k3, D11, D12, g1, g2, y2, by omega, by omega, g3, ?_⟩
              show k_b (f_X11_emit u (nI f) (nI k3) D11 D12 (nI v) (0 : Int32)) _ = _
              rw [emitF (show f < 2147483648 by omega), z_b]
          · rw [w6, w7, z_b, z_b]
            obtain ⟨k', A', p', st', g1, g2, g3⟩ := x75 f pf _ w4 w5 (pair4F T hu (A := A3) (st := st3) (pl := nI pf) w1 w2 (kf_0 w4 w5))
            exact Or.inr ⟨k', p', f, pf, A', st', _, _, _, _, _, g1, g2, w3, w4, w5, g3, mE pf _ _ _ _ _ _ w3⟩
        · rw [v3, z_b, v4, z_b]
          obtain ⟨k', A', p', st', g1, g2, g3⟩ := x75 1 f _ (by omega) (by omega) (pair3F T hu hX' (k := k2) (p := f) (A := A2) (st := st2) (f := nI 1) (pl := nI f) (by omega) v2 (by decide))
          have em := hM (nI f) f (nI 1) (nI (e + 1)) (nI k2) B11 B12 (by omega)
          refine Or.inr ⟨k', p', 1, f, A', st', nI f, nI (e + 1) - (1 : Int32), nI k2, B11, B12, g1, g2, v2, by omega, by omega, g3, ?_⟩
          show k_b (gm (nI n) (nI f) (nI f) (nI 1) (nI (e + 1)) (nI k2) a2 B11 B12) _ = _
          rw [em, z_b]
          exact mE f _ _ _ _ _ _ v2
      · rw [s6, s7, z_b, z_b]
        obtain ⟨k', A', p', st', g1, g2, g3⟩ := x75 f pf _ s4 s5 (pair2F T hu hX' (A := A2) (st := st2) (pl := nI pf) s1 s2 (kf_0 s4 s5))
        have em := hM at2 pf (nI f) op2 c2 B11 B12 (by omega)
        refine Or.inr ⟨k', p', f, pf, A', st', at2, op2 - (1 : Int32), c2, B11, B12, g1, g2, s3, s4, s5, g3, ?_⟩
        show k_b (f_X11_sign u (nI n) at2 (nI pf) (nI f) a2 (44 : Int32)) _ = _
        rw [t_signMF (show pf < 2147483648 by omega), z_b]
        show k_b (gm (nI n) at2 (nI pf) (nI f) op2 c2 a2 B11 B12) _ = _
        rw [em, z_b]
        exact mE pf _ _ _ _ _ _ s3
    · rw [r3, z_b, r4, z_b]
      obtain ⟨k', A', p', st', g1, g2, g3⟩ := x75 1 f _ (by omega) (by omega) (pair1F T hu hX' (k := k) (p := f) (A := A) (st := nI p) (f := nI 1) (pl := nI f) (by omega) r2 (by decide))
      have em := hM (nI f) f (nI 1) (nI (e + 1)) (nI k) A11 A12 (by omega)
      refine Or.inr ⟨k', p', 1, f, A', st', nI f, nI (e + 1) - (1 : Int32), nI k, A11, A12, g1, g2, r2, by omega, by omega, g3, ?_⟩
      show k_b (gm (nI n) (nI f) (nI f) (nI 1) (nI (e + 1)) (nI k) a2 A11 A12) _ = _
      rw [em, z_b]
      show k_b (f_X11_sign u (nI n) (nI f) (nI f) (nI 1) a2 (44 : Int32)) _ = _
      rw [t_signMF (show f < 2147483648 by omega), z_b]
      show k_b (gm (nI n) (nI f) (nI f) (nI 1) (nI (e + 1)) (nI k) a2 A11 A12) _ = _
      rw [em, z_b]
      exact mE f _ _ _ _ _ _ r2
  · have h6 : e = 6 := by omega
    subst h6
    rw [if_neg (show ¬ nI 6 < (6 : Int32) by decide), if_pos (show nI 6 = (6 : Int32) from rfl), t_wrong, z_b, t_fineF (show p < 2147483648 by omega), z_b, if_pos rfl, z_b, t_fail, z_b]
    obtain ⟨k', A', p', st', g1, g2, g3⟩ := x75 3 p (some (nI k, A, nI (p + w), nI p, nI 3, nI p)) (by omega) (by omega) ⟨k, A, p + w, nI p, by omega, hp, rfl⟩
    have em := hM (nI p) p (nI 3) (nI 6 + (1 : Int32)) (nI k) A11 A12 (by omega)
    refine Or.inr ⟨k', p', 3, p, A', st', nI p, nI 6 + (1 : Int32) - (1 : Int32), nI k, A11, A12, g1, g2, by omega, by omega, by omega, g3, ?_⟩
    show k_b (f_X11_sign u (nI n) (nI p) (nI p) (nI 3) a2 (91 : Int32)) _ = _
    rw [t_signMF (show p < 2147483648 by omega), z_b]
    show k_b (gm (nI n) (nI p) (nI p) (nI 3) (nI 6 + (1 : Int32)) (nI k) a2 A11 A12) _ = _
    rw [em, z_b]
    show k_b (f_X11_sign u (nI n) (nI p) (nI p) (nI 3) a2 (44 : Int32)) _ = _
    rw [t_signMF (show p < 2147483648 by omega), z_b]
    show k_b (gm (nI n) (nI p) (nI p) (nI 3) (nI 6 + (1 : Int32)) (nI k) a2 A11 A12) _ = _
    rw [em, z_b]
    exact mE p _ _ _ _ _ _ (by omega)
theorem factS (T : TXT b n a1 a2) (hu : 700 ≤ u) (hn : n ≤ 150) {g : (Int32 → (Nat → Int32) → Int32 → Int32 → Int32 → Int32 → Int32 → (Nat → Int32) → Int32 → Option (Int32 × (Nat → Int32) × Int32 × Int32 × Int32 × Int32))} {gm : (Int32 → Int32 → Int32 → Int32 → Int32 → Int32 → (Nat → Int32) → (Nat → Int32) → (Nat → Int32) → Option (Int32 × Int32 × Int32 × Int32 × Int32 × (Nat → Int32) × (Nat → Int32)))} {e k p p0 i : Nat} {q o : Nat → Nat} {A A11 A12 : Nat → Int32} (C : CI k q o A A11 A12) (hh : hts q k ≤ 3 * e + 2) (hk : k ≤ p) (hs : p0 ≤ n) (hge : p ≤ p0) (hl : 1 ≤ wl b n p0) (hi : i < 8) (st pl bk : Int32) (he : e ≤ 6 := by assumption) : OUT n pl e k p (hts q k + 1) 1 (bX1_readUnit_75 u g (nI n) a1 (nI k) A (nI (p0 + wl b n p0)) (nI p0) (0 : Int32) pl ((-1 : Int32) - nI i)) (bX11_readUnit_136 u gm (nI n) a2 (nI p0) (-1 : Int32) bk (nI e) (nI k) A11 A12 (nI i)) := by
  have hwl := wl_le b hs
  unfold bX1_readUnit_75 bX11_readUnit_136
  obtain ⟨t1, t2, q6, o6, t3, t4⟩ := CI_put (u := u) C (show k < 150 by omega) (v := 1) (w := i) (by omega) (fun h => by omega) (fun _ => hi) (by intro _; omega) (by intro h; omega)
  rw [(op_f i hi).1, t1, z_b, t_fine, z_b, if_neg d_10, t_pass T hu hs, z_b, show f_X11_emit u (-1 : Int32) (nI k) A11 A12 (1 : Int32) (nI i) = _ from t2, z_b]
  exact Or.inl ⟨k + 1, p0 + wl b n p0, q6, o6, _, _, bk, _, _, rfl, rfl, t3, by rw [t4, if_pos (by omega)], by omega, by omega, hwl⟩
theorem pairT {n e k p p0 H : Nat} {pl : Int32} {x : Option xT} {m : Option yT} (h : OUT n pl e k p0 H 1 x m) (hge : p ≤ p0) : OUT n pl e k p H 1 x (k_b m (fun r => some (r.1, r.2.1, r.2.2.1, r.2.2.2.1, r.2.2.2.2.1, r.2.2.2.2.2.1, r.2.2.2.2.2.2))) := by
  rcases h with ⟨k2, p2, q2, o2, A2, st2, bk2, B11, B12, s1, s2, s3, s4, s5, s6, s7⟩ | ⟨k2, p2, f, pf, A2, st2, at2, op2, c2, B11, B12, s1, s2, s3, s4, s5, s6, s7⟩
  · exact Or.inl ⟨k2, p2, q2, o2, A2, st2, bk2, B11, B12, s1, by rw [s2, z_b], s3, s4, by omega, by omega, s7⟩
  · exact Or.inr ⟨k2, p2, f, pf, A2, st2, at2, op2, c2, B11, B12, s1, s2, s3, s4, s5, s6, by rw [s7, z_b]⟩
set_option maxHeartbeats 4000000 in
theorem unitS (T : TXT b n a1 a2) (hu : 700 ≤ u) (hn : n ≤ 150) {g : (Int32 → (Nat → Int32) → Int32 → Int32 → Int32 → Int32 → Int32 → (Nat → Int32) → Int32 → Option (Int32 × (Nat → Int32) × Int32 × Int32 × Int32 × Int32))} {gm : (Int32 → Int32 → Int32 → Int32 → Int32 → Int32 → (Nat → Int32) → (Nat → Int32) → (Nat → Int32) → Option (Int32 × Int32 × Int32 × Int32 × Int32 × (Nat → Int32) × (Nat → Int32)))} {e : Nat} (he : e ≤ 6) {pl : Int32} (hM : gMF n a2 gm) (hX : e < 6 → gXF n a1 g (e + 1)) (hg : e < 6 → gSM n a1 a2 pl g gm (e + 1) 0) : gSM n a1 a2 pl (f_X1_readUnit u g) (f_X11_readUnit u gm) e 2 := by
  intro k q o A A11 A12 p st bk C hh hk hp
  have hs := sk_le b hp
  have hge := sk_ge b n p
  have hid := sk_id b hp
  unfold f_X1_readUnit bX1_readUnit_0 f_X11_readUnit bX11_readUnit_0
  rw [t_digitX T hu hp, z_b, t_fine, z_b, if_neg d_10, t_here T hu hp, z_b]
  have c40 : (pkM b n (sk b n p) = (40 : Int32)) = (atC b n (sk b n p) 40 = true) := pkM_c T _ (c := 40) (by omega) (by omega)
  cases hd : atD b n (sk b n p) with
  | true =>
    obtain ⟨d1, d2⟩ := of_decide_eq_true hd
    have n40 : ¬ pkM b n (sk b n p) = (40 : Int32) := by
      rw [c40]
      intro w
      unfold atC at w
      have := (of_decide_eq_true w).2
      omega
    rw [if_neg (show ¬ zB true = (0 : Int32) from d_10), if_neg n40, t_here T hu hs, z_b, hid, t_digM T, z_b, hd, if_neg (show ¬ zB true = (0 : Int32) from d_10)]
    rcases t_num T hu hs (lo := 0) (hi := 999) (by omega) (by omega) st pl bk with ⟨w, q1, -, hw, hq1, hq2, e1, e2⟩ | ⟨kk, f, q1, hkk, hf, hq, e1, q', e2⟩
    · rw [show f_X8_number u (nI n) (nI (sk b n p)) st (0 : Int32) pl a1 (0 : Int32) (999 : Int32) = _ from e1, show f_X11_readNumber u (nI n) (nI (sk b n p)) (-1 : Int32) bk a2 (0 : Int32) (999 : Int32) = _ from e2, z_b, z_b]
      obtain ⟨t1, t2, q6, o6, t3, t4⟩ := CI_put (u := u) C (show k < 150 by omega) (v := 0) (w := w) (by omega) (fun _ => hw) (fun h => by omega) (by intro _; omega) (by intro h; omega)
      rw [show f_X1_put u (nI k) A (nI w) = _ from t1, show f_X11_emit u (-1 : Int32) (nI k) A11 A12 (0 : Int32) (nI w) = _ from t2, z_b, z_b]
      exact Or.inl ⟨k + 1, q1, q6, o6, _, _, bk, _, _, rfl, rfl, t3, by rw [t4, if_pos (by omega)], by omega, by omega, hq2⟩
    · rw [show f_X8_number u (nI n) (nI (sk b n p)) st (0 : Int32) pl a1 (0 : Int32) (999 : Int32) = _ from e1, show f_X11_readNumber u (nI n) (nI (sk b n p)) (-1 : Int32) bk a2 (0 : Int32) (999 : Int32) = _ from e2, z_b, z_b, emitF (show f < 2147483648 by omega), z_b]
      obtain ⟨k2, A2, hk2, e3⟩ := putF (u := u) (show k ≤ 150 by omega) A (nI 0)
      rw [e3, z_b]
      exact Or.inr ⟨k2, q1, kk, f, _, _, _, _, _, _, _, hk2, hq, hf, by omega, by omega, rfl, rfl⟩
  | false =>
    rw [if_pos (show zB false = (0 : Int32) from rfl), t_isNext T hu hs (c := 40) (k := 40) rfl (by omega) (by omega), z_b, hid]
    cases hc : atC b n (sk b n p) 40 with
    | true =>
      have hlt : sk b n p < n := by unfold atC at hc; exact (of_decide_eq_true hc).1
      rw [if_neg (show ¬ zB true = (0 : Int32) from d_10), if_pos (show pkM b n (sk b n p) = (40 : Int32) by rw [c40]; exact hc)]
      unfold f_X1_readBracket bX1_readBracket_0 f_X11_opensOne bX11_opensOne_0 bX11_opensOne_25 bX11_opensOne_42
      rw [t_fine, z_b, if_neg d_10]
      by_cases z : e < 6
      · rw [if_pos (show nI e < (6 : Int32) from nI_lt (b := 6) z (by omega)), if_neg (show ¬ nI e = (6 : Int32) from fun w => by have := (nI_eq (b := 6) (by omega) (by omega)).mp w; omega), z_b, if_neg d_10, z_b, show nI e + (1 : Int32) = nI (e + 1) from nI_1 e, t_signX1 T hu hs (c := 40) (k := 40) rfl (by omega) (by omega) _ _ (by rw [hid]; exact hc), z_b, hid, show nI (sk b n p) + (1 : Int32) = nI (sk b n p + 1) from nI_1 _]
        rcases hg z k q o A A11 A12 (sk b n p + 1) st bk C (by omega) (by omega) (by omega) with ⟨k2, p2, q2, o2, A2, st2, bk2, B11, B12, s1, s2, s3, s4, s5, s6, s7⟩ | ⟨k2, p2, f, pf, A2, st2, at2, op2, c2, B11, B12, s1, s2, s3, s4, s5, s6, s7⟩
        · rw [s1, s2, z_b, z_b]
          rcases sgn_both T hu s7 (c := 41) (k := 41) rfl (by omega) (by omega) pl bk2 with ⟨q3, v1, v2, v3, v4⟩ | ⟨f, v2, v3, v4⟩
          · rw [v3, v4, z_b, z_b, z_b]
            refine Or.inl ⟨k2, q3, q2, o2, A2, st2, bk2, B11, B12, rfl, ?_, s3, s4, by omega, by omega, v2⟩
            show some _ = some _
            rw [show nI (e + 1) - (1 : Int32) = nI e from nI_pred e]
          · rw [v3, v4, z_b, z_b, z_b]
            exact Or.inr ⟨k2, f, 1, f, A2, st2, _, _, _, _, _, by omega, v2, v2, by omega, by omega, rfl, rfl⟩
        · rw [s6, s7, z_b, z_b]
          obtain ⟨q3, hq3, e3⟩ := t_signF T hu s2 (c := 41) (k := 41) rfl (by omega) (by omega) (kf_0 s4 s5) (pl := nI pf)
          rw [show f_X8_sign u (nI n) (nI k2, A2, nI p2, st2, nI f, nI pf).2.2.1 (nI k2, A2, nI p2, st2, nI f, nI pf).2.2.2.2.1 (nI k2, A2, nI p2, st2, nI f, nI pf).2.2.2.2.2 a1 (41 : Int32) = _ from e3, z_b, z_b, t_signMF (show pf < 2147483648 by omega), z_b]
          exact Or.inr ⟨k2, q3, f, pf, A2, st2, _, _, _, _, _, s1, hq3, s3, s4, s5, rfl, rfl⟩
      · have h6 : e = 6 := by omega
        subst h6
        rw [if_neg (show ¬ nI 6 < (6 : Int32) by decide), if_pos (show nI 6 = (6 : Int32) from rfl), t_wrong, z_b, t_fineF (show sk b n p < 2147483648 by omega), z_b, if_pos rfl, z_b]
        unfold f_X8_failHere bX8_failHere_0
        rw [t_peek T hu hs, z_b, hid, t_fail, z_b, z_b, z_b]
        have em := hM (nI (sk b n p)) (sk b n p) (3 : Int32) (nI 6 + (1 : Int32)) (nI k) A11 A12 (by omega)
        refine Or.inr ⟨k, sk b n p, 3, sk b n p, A, st, nI (sk b n p), nI 6 + (1 : Int32) - (1 : Int32), nI k, A11, A12, by omega, hs, hs, by omega, by omega, rfl, ?_⟩
        show k_b (gm (nI n) (nI (sk b n p)) (nI (sk b n p)) (3 : Int32) (nI 6 + (1 : Int32)) (nI k) a2 A11 A12) _ = _
        rw [em, z_b]
        show k_b (f_X11_sign u (nI n) (nI (sk b n p)) (nI (sk b n p)) (3 : Int32) a2 (41 : Int32)) _ = _
        rw [t_signMF (show sk b n p < 2147483648 by omega), z_b]
        rfl
    | false =>
      have hwl := wl_le b hs
      have hid2 := sk_id b hs
      rw [hid] at hid2
      rw [if_pos (show zB false = (0 : Int32) from rfl), if_neg (show ¬ pkM b n (sk b n p) = (40 : Int32) by rw [c40, hc]; decide), t_here T hu hs, z_b, hid, t_digM T, z_b, hd, if_pos (show zB false = (0 : Int32) from rfl), t_wordX T hu (si := 3) hs (by decide), t_word T hu hs, z_b, of_16 (by omega), z_b, hid]
      have hw3 := wid_3 (b := b) (n := n) (sk b n p)
      by_cases x18 : pkW b n (sk b n p) = ofW 18
      · have hv : widW 3 b n (sk b n p) = some 0 := by
          rw [hw3]
          rw [if_pos x18]
        have hl := wl_of (w := 18) (by decide) (by decide) (by decide +kernel) x18
        have hl1 : 1 ≤ wl b n (sk b n p) := by rw [hl]; decide
        rw [hv]
        show OUT n pl e k p (hts q k + 1) 1 (k_b (if (0 : Int32) = 0 then some (nI 0, nI (sk b n p + wl b n (sk b n p)), nI (sk b n p), (0 : Int32), pl) else _) _) _
        rw [if_pos rfl, z_b, t_good, z_b, if_neg d_10, if_neg (op_f 0 (by omega)).2.1, if_neg (op_f 0 (by omega)).2.2, if_neg (show ¬ nI (pkW b n (sk b n p)) = nI (ofW 16) by rw [x18]; exact ow_ne ow_18 ow_16 (by omega) (by omega) (by omega)), t_word T hu hs, z_b, of_17 (by omega), z_b, hid, if_neg (show ¬ nI (pkW b n (sk b n p)) = nI (ofW 17) by rw [x18]; exact ow_ne ow_18 ow_17 (by omega) (by omega) (by omega)), fact_0 T hu hs (by rw [hid]; exact x18), z_b, hid, if_neg (show ¬ nI 0 = (-1 : Int32) by decide)]
        exact factS T hu hn C hh hk hs hge hl1 (show 0 < 8 by omega) st pl bk
      by_cases x19 : pkW b n (sk b n p) = ofW 19
      · have hv : widW 3 b n (sk b n p) = some 1 := by
          rw [hw3]
          rw [if_neg x18]
          rw [if_pos x19]
        have hl := wl_of (w := 19) (by decide) (by decide) (by decide +kernel) x19
        have hl1 : 1 ≤ wl b n (sk b n p) := by rw [hl]; decide
        rw [hv]
        show OUT n pl e k p (hts q k + 1) 1 (k_b (if (0 : Int32) = 0 then some (nI 1, nI (sk b n p + wl b n (sk b n p)), nI (sk b n p), (0 : Int32), pl) else _) _) _
        rw [if_pos rfl, z_b, t_good, z_b, if_neg d_10, if_neg (op_f 1 (by omega)).2.1, if_neg (op_f 1 (by omega)).2.2, if_neg (show ¬ nI (pkW b n (sk b n p)) = nI (ofW 16) by rw [x19]; exact ow_ne ow_19 ow_16 (by omega) (by omega) (by omega)), t_word T hu hs, z_b, of_17 (by omega), z_b, hid, if_neg (show ¬ nI (pkW b n (sk b n p)) = nI (ofW 17) by rw [x19]; exact ow_ne ow_19 ow_17 (by omega) (by omega) (by omega)), fact_1 T hu hs (by rw [hid]; exact x19), z_b, hid, if_neg (show ¬ nI 1 = (-1 : Int32) by decide)]
        exact factS T hu hn C hh hk hs hge hl1 (show 1 < 8 by omega) st pl bk
      by_cases x20 : pkW b n (sk b n p) = ofW 20
      · have hv : widW 3 b n (sk b n p) = some 2 := by
          rw [hw3]
          rw [if_neg x18]
          rw [if_neg x19]
          rw [if_pos x20]
        have hl := wl_of (w := 20) (by decide) (by decide) (by decide +kernel) x20
        have hl1 : 1 ≤ wl b n (sk b n p) := by rw [hl]; decide
        rw [hv]
        show OUT n pl e k p (hts q k + 1) 1 (k_b (if (0 : Int32) = 0 then some (nI 2, nI (sk b n p + wl b n (sk b n p)), nI (sk b n p), (0 : Int32), pl) else _) _) _
        rw [if_pos rfl, z_b, t_good, z_b, if_neg d_10, if_neg (op_f 2 (by omega)).2.1, if_neg (op_f 2 (by omega)).2.2, if_neg (show ¬ nI (pkW b n (sk b n p)) = nI (ofW 16) by rw [x20]; exact ow_ne ow_20 ow_16 (by omega) (by omega) (by omega)), t_word T hu hs, z_b, of_17 (by omega), z_b, hid, if_neg (show ¬ nI (pkW b n (sk b n p)) = nI (ofW 17) by rw [x20]; exact ow_ne ow_20 ow_17 (by omega) (by omega) (by omega)), fact_2 T hu hs (by rw [hid]; exact x20), z_b, hid, if_neg (show ¬ nI 2 = (-1 : Int32) by decide)]
        exact factS T hu hn C hh hk hs hge hl1 (show 2 < 8 by omega) st pl bk
      by_cases x21 : pkW b n (sk b n p) = ofW 21
      · have hv : widW 3 b n (sk b n p) = some 3 := by
          rw [hw3]
          rw [if_neg x18]
          rw [if_neg x19]
          rw [if_neg x20]
          rw [if_pos x21]
        have hl := wl_of (w := 21) (by decide) (by decide) (by decide +kernel) x21
        have hl1 : 1 ≤ wl b n (sk b n p) := by rw [hl]; decide
        rw [hv]
        show OUT n pl e k p (hts q k + 1) 1 (k_b (if (0 : Int32) = 0 then some (nI 3, nI (sk b n p + wl b n (sk b n p)), nI (sk b n p), (0 : Int32), pl) else _) _) _
        rw [if_pos rfl, z_b, t_good, z_b, if_neg d_10, if_neg (op_f 3 (by omega)).2.1, if_neg (op_f 3 (by omega)).2.2, if_neg (show ¬ nI (pkW b n (sk b n p)) = nI (ofW 16) by rw [x21]; exact ow_ne ow_21 ow_16 (by omega) (by omega) (by omega)), t_word T hu hs, z_b, of_17 (by omega), z_b, hid, if_neg (show ¬ nI (pkW b n (sk b n p)) = nI (ofW 17) by rw [x21]; exact ow_ne ow_21 ow_17 (by omega) (by omega) (by omega)), fact_3 T hu hs (by rw [hid]; exact x21), z_b, hid, if_neg (show ¬ nI 3 = (-1 : Int32) by decide)]
        exact factS T hu hn C hh hk hs hge hl1 (show 3 < 8 by omega) st pl bk
      by_cases x22 : pkW b n (sk b n p) = ofW 22
      · have hv : widW 3 b n (sk b n p) = some 4 := by
          rw [hw3]
          rw [if_neg x18]
          rw [if_neg x19]
          rw [if_neg x20]
          rw [if_neg x21]
          rw [if_pos x22]
        have hl := wl_of (w := 22) (by decide) (by decide) (by decide +kernel) x22
        have hl1 : 1 ≤ wl b n (sk b n p) := by rw [hl]; decide
        rw [hv]
        show OUT n pl e k p (hts q k + 1) 1 (k_b (if (0 : Int32) = 0 then some (nI 4, nI (sk b n p + wl b n (sk b n p)), nI (sk b n p), (0 : Int32), pl) else _) _) _
        rw [if_pos rfl, z_b, t_good, z_b, if_neg d_10, if_neg (op_f 4 (by omega)).2.1, if_neg (op_f 4 (by omega)).2.2, if_neg (show ¬ nI (pkW b n (sk b n p)) = nI (ofW 16) by rw [x22]; exact ow_ne ow_22 ow_16 (by omega) (by omega) (by omega)), t_word T hu hs, z_b, of_17 (by omega), z_b, hid, if_neg (show ¬ nI (pkW b n (sk b n p)) = nI (ofW 17) by rw [x22]; exact ow_ne ow_22 ow_17 (by omega) (by omega) (by omega)), fact_4 T hu hs (by rw [hid]; exact x22), z_b, hid, if_neg (show ¬ nI 4 = (-1 : Int32) by decide)]
        exact factS T hu hn C hh hk hs hge hl1 (show 4 < 8 by omega) st pl bk
      by_cases x23 : pkW b n (sk b n p) = ofW 23
      · have hv : widW 3 b n (sk b n p) = some 5 := by
          rw [hw3]
          rw [if_neg x18]
          rw [if_neg x19]
          rw [if_neg x20]
          rw [if_neg x21]
          rw [if_neg x22]
          rw [if_pos x23]
        have hl := wl_of (w := 23) (by decide) (by decide) (by decide +kernel) x23
        have hl1 : 1 ≤ wl b n (sk b n p) := by rw [hl]; decide
        rw [hv]
        show OUT n pl e k p (hts q k + 1) 1 (k_b (if (0 : Int32) = 0 then some (nI 5, nI (sk b n p + wl b n (sk b n p)), nI (sk b n p), (0 : Int32), pl) else _) _) _
        rw [if_pos rfl, z_b, t_good, z_b, if_neg d_10, if_neg (op_f 5 (by omega)).2.1, if_neg (op_f 5 (by omega)).2.2, if_neg (show ¬ nI (pkW b n (sk b n p)) = nI (ofW 16) by rw [x23]; exact ow_ne ow_23 ow_16 (by omega) (by omega) (by omega)), t_word T hu hs, z_b, of_17 (by omega), z_b, hid, if_neg (show ¬ nI (pkW b n (sk b n p)) = nI (ofW 17) by rw [x23]; exact ow_ne ow_23 ow_17 (by omega) (by omega) (by omega)), fact_5 T hu hs (by rw [hid]; exact x23), z_b, hid, if_neg (show ¬ nI 5 = (-1 : Int32) by decide)]
        exact factS T hu hn C hh hk hs hge hl1 (show 5 < 8 by omega) st pl bk
      by_cases x24 : pkW b n (sk b n p) = ofW 24
      · have hv : widW 3 b n (sk b n p) = some 6 := by
          rw [hw3]
          rw [if_neg x18]
          rw [if_neg x19]
          rw [if_neg x20]
          rw [if_neg x21]
          rw [if_neg x22]
          rw [if_neg x23]
          rw [if_pos x24]
        have hl := wl_of (w := 24) (by decide) (by decide) (by decide +kernel) x24
        have hl1 : 1 ≤ wl b n (sk b n p) := by rw [hl]; decide
        rw [hv]
        show OUT n pl e k p (hts q k + 1) 1 (k_b (if (0 : Int32) = 0 then some (nI 6, nI (sk b n p + wl b n (sk b n p)), nI (sk b n p), (0 : Int32), pl) else _) _) _
        rw [if_pos rfl, z_b, t_good, z_b, if_neg d_10, if_neg (op_f 6 (by omega)).2.1, if_neg (op_f 6 (by omega)).2.2, if_neg (show ¬ nI (pkW b n (sk b n p)) = nI (ofW 16) by rw [x24]; exact ow_ne ow_24 ow_16 (by omega) (by omega) (by omega)), t_word T hu hs, z_b, of_17 (by omega), z_b, hid, if_neg (show ¬ nI (pkW b n (sk b n p)) = nI (ofW 17) by rw [x24]; exact ow_ne ow_24 ow_17 (by omega) (by omega) (by omega)), fact_6 T hu hs (by rw [hid]; exact x24), z_b, hid, if_neg (show ¬ nI 6 = (-1 : Int32) by decide)]
        exact factS T hu hn C hh hk hs hge hl1 (show 6 < 8 by omega) st pl bk
      by_cases x25 : pkW b n (sk b n p) = ofW 25
      · have hv : widW 3 b n (sk b n p) = some 7 := by
          rw [hw3]
          rw [if_neg x18]
          rw [if_neg x19]
          rw [if_neg x20]
          rw [if_neg x21]
          rw [if_neg x22]
          rw [if_neg x23]
          rw [if_neg x24]
          rw [if_pos x25]
        have hl := wl_of (w := 25) (by decide) (by decide) (by decide +kernel) x25
        have hl1 : 1 ≤ wl b n (sk b n p) := by rw [hl]; decide
        rw [hv]
        show OUT n pl e k p (hts q k + 1) 1 (k_b (if (0 : Int32) = 0 then some (nI 7, nI (sk b n p + wl b n (sk b n p)), nI (sk b n p), (0 : Int32), pl) else _) _) _
        rw [if_pos rfl, z_b, t_good, z_b, if_neg d_10, if_neg (op_f 7 (by omega)).2.1, if_neg (op_f 7 (by omega)).2.2, if_neg (show ¬ nI (pkW b n (sk b n p)) = nI (ofW 16) by rw [x25]; exact ow_ne ow_25 ow_16 (by omega) (by omega) (by omega)), t_word T hu hs, z_b, of_17 (by omega), z_b, hid, if_neg (show ¬ nI (pkW b n (sk b n p)) = nI (ofW 17) by rw [x25]; exact ow_ne ow_25 ow_17 (by omega) (by omega) (by omega)), fact_7 T hu hs (by rw [hid]; exact x25), z_b, hid, if_neg (show ¬ nI 7 = (-1 : Int32) by decide)]
        exact factS T hu hn C hh hk hs hge hl1 (show 7 < 8 by omega) st pl bk
      by_cases x16 : pkW b n (sk b n p) = ofW 16
      · have hv : widW 3 b n (sk b n p) = some 8 := by
          rw [hw3]
          rw [if_neg x18]
          rw [if_neg x19]
          rw [if_neg x20]
          rw [if_neg x21]
          rw [if_neg x22]
          rw [if_neg x23]
          rw [if_neg x24]
          rw [if_neg x25]
          rw [if_pos x16]
        have hl := wl_of (w := 16) (by decide) (by decide) (by decide +kernel) x16
        have hl1 : wl b n (sk b n p) = 5 := by rw [hl]; rfl
        rw [hv]
        show OUT n pl e k p (hts q k + 1) 1 (k_b (if (0 : Int32) = 0 then some (nI 8, nI (sk b n p + wl b n (sk b n p)), nI (sk b n p), (0 : Int32), pl) else _) _) _
        rw [if_pos rfl, z_b, t_good, z_b, if_neg d_10, if_pos op_8, if_pos (show nI (pkW b n (sk b n p)) = nI (ofW 16) by rw [x16])]
        have P := pairS (u := u) T hu hn he (pl := pl) hM hX hg C hh (show k ≤ sk b n p by omega) (w := wl b n (sk b n p)) (by omega) hwl bk (v := 6) (c := (-1 : Int32) - nI 8) (by omega) (by decide)
        rw [show nI (wl b n (sk b n p)) = (5 : Int32) by rw [hl1]; rfl] at P
        exact pairT P hge
      by_cases x17 : pkW b n (sk b n p) = ofW 17
      · have hv : widW 3 b n (sk b n p) = some 9 := by
          rw [hw3]
          rw [if_neg x18]
          rw [if_neg x19]
          rw [if_neg x20]
          rw [if_neg x21]
          rw [if_neg x22]
          rw [if_neg x23]
          rw [if_neg x24]
          rw [if_neg x25]
          rw [if_neg x16]
          rw [if_pos x17]
        have hl := wl_of (w := 17) (by decide) (by decide) (by decide +kernel) x17
        have hl1 : wl b n (sk b n p) = 4 := by rw [hl]; rfl
        rw [hv]
        show OUT n pl e k p (hts q k + 1) 1 (k_b (if (0 : Int32) = 0 then some (nI 9, nI (sk b n p + wl b n (sk b n p)), nI (sk b n p), (0 : Int32), pl) else _) _) _
        rw [if_pos rfl, z_b, t_good, z_b, if_neg d_10, if_neg (show ¬ (-1 : Int32) - nI 9 = (-9 : Int32) by decide), if_pos op_9, if_neg (show ¬ nI (pkW b n (sk b n p)) = nI (ofW 16) by rw [x17]; exact ow_ne ow_17 ow_16 (by omega) (by omega) (by omega)), t_word T hu hs, z_b, of_17 (by omega), z_b, hid, if_pos (show nI (pkW b n (sk b n p)) = nI (ofW 17) by rw [x17])]
        have P := pairS (u := u) T hu hn he (pl := pl) hM hX hg C hh (show k ≤ sk b n p by omega) (w := wl b n (sk b n p)) (by omega) hwl bk (v := 7) (c := (-1 : Int32) - nI 9) (by omega) (by decide)
        rw [show nI (wl b n (sk b n p)) = (4 : Int32) by rw [hl1]; rfl] at P
        exact pairT P hge
      have hv : widW 3 b n (sk b n p) = none := by
        rw [hw3]
        rw [if_neg x18]
        rw [if_neg x19]
        rw [if_neg x20]
        rw [if_neg x21]
        rw [if_neg x22]
        rw [if_neg x23]
        rw [if_neg x24]
        rw [if_neg x25]
        rw [if_neg x16]
        rw [if_neg x17]
      rw [hv]
      show OUT n pl e k p (hts q k + 1) 1 (k_b (k_b (f_X8_fail u (0 : Int32) pl (1 : Int32) (nI (sk b n p))) _) _) _
      rw [t_fail, z_b, z_b, t_goodF (show ¬ (1 : Int32) = 0 from d_10), z_b, if_pos rfl, if_neg (pk_ne ow_16 (by omega) x16), t_word T hu hs, z_b, of_17 (by omega), z_b, hid, if_neg (pk_ne ow_17 (by omega) x17), fact_no T hu hs (by rw [hid]; exact x18) (by rw [hid]; exact x19) (by rw [hid]; exact x20) (by rw [hid]; exact x21) (by rw [hid]; exact x22) (by rw [hid]; exact x23) (by rw [hid]; exact x24) (by rw [hid]; exact x25), z_b, hid, if_pos rfl, t_wrong, z_b]
      unfold bX11_readUnit_136
      rw [t_fineF (show sk b n p < 2147483648 by omega), z_b, if_pos rfl]
      exact Or.inr ⟨k, sk b n p + wl b n (sk b n p), 1, sk b n p, A, _, _, _, _, _, _, by omega, hwl, hs, by omega, by omega, rfl, rfl⟩
end LWU
