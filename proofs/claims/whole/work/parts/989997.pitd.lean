/-! PIT: a clause -/
section PTD
variable {u n : Nat} {b : Nat → Nat} {t1 t2 : Nat → Int32}
variable {p : aP} {s : Nat} {x0 x1 x7 x8 x9 x10 : Int32} {x6 : Int64} {a1 a2 a3 a4 a5 a6 : Nat → Int32} {m18 m19 m20 m21 m22 m23 m24 : Int32} {b3 b4 b5 b6 : Nat → Int32}
variable {r0 r2 r7 r8 r25 r26 r27 r28 r29 r30 r42 r43 r54 r65 : Int32} {ra1 ra7 ra8 ra9 ra10 ra15 ra20 : Nat → Int32}
theorem isC_0 (hu : 700 ≤ u) : f_X11_isClause u (nI (ofW 7)) = some (1 : Int32) := by
  unfold f_X11_isClause bX11_isClause_0
  rw [of_7 (by omega), z_b]
  exact if_pos rfl
theorem wid1_0 {q : Nat} (h : pkW b n q = ofW 7) : widW 1 b n q = some 0 := by
  rw [wid_1, h, if_pos rfl]
theorem isC_1 (hu : 700 ≤ u) : f_X11_isClause u (nI (ofW 8)) = some (1 : Int32) := by
  unfold f_X11_isClause bX11_isClause_0
  rw [of_7 (by omega), z_b, if_neg (ow_ne ow_8 ow_7 (by omega) (by omega) (by omega)), of_8 (by omega), z_b]
  exact if_pos rfl
theorem wid1_1 {q : Nat} (h : pkW b n q = ofW 8) : widW 1 b n q = some 1 := by
  rw [wid_1, h, if_neg (show ¬ ofW 8 = ofW 7 by rw [ow_8, ow_7]; omega), if_pos rfl]
theorem isC_2 (hu : 700 ≤ u) : f_X11_isClause u (nI (ofW 9)) = some (1 : Int32) := by
  unfold f_X11_isClause bX11_isClause_0
  rw [of_7 (by omega), z_b, if_neg (ow_ne ow_9 ow_7 (by omega) (by omega) (by omega)), of_8 (by omega), z_b, if_neg (ow_ne ow_9 ow_8 (by omega) (by omega) (by omega)), of_9 (by omega), z_b]
  exact if_pos rfl
theorem wid1_2 {q : Nat} (h : pkW b n q = ofW 9) : widW 1 b n q = some 2 := by
  rw [wid_1, h, if_neg (show ¬ ofW 9 = ofW 7 by rw [ow_9, ow_7]; omega), if_neg (show ¬ ofW 9 = ofW 8 by rw [ow_9, ow_8]; omega), if_pos rfl]
theorem isC_3 (hu : 700 ≤ u) : f_X11_isClause u (nI (ofW 10)) = some (1 : Int32) := by
  unfold f_X11_isClause bX11_isClause_0
  rw [of_7 (by omega), z_b, if_neg (ow_ne ow_10 ow_7 (by omega) (by omega) (by omega)), of_8 (by omega), z_b, if_neg (ow_ne ow_10 ow_8 (by omega) (by omega) (by omega)), of_9 (by omega), z_b, if_neg (ow_ne ow_10 ow_9 (by omega) (by omega) (by omega)), of_10 (by omega), z_b]
  exact if_pos rfl
theorem wid1_3 {q : Nat} (h : pkW b n q = ofW 10) : widW 1 b n q = some 3 := by
  rw [wid_1, h, if_neg (show ¬ ofW 10 = ofW 7 by rw [ow_10, ow_7]; omega), if_neg (show ¬ ofW 10 = ofW 8 by rw [ow_10, ow_8]; omega), if_neg (show ¬ ofW 10 = ofW 9 by rw [ow_10, ow_9]; omega), if_pos rfl]
theorem isC_4 (hu : 700 ≤ u) : f_X11_isClause u (nI (ofW 11)) = some (1 : Int32) := by
  unfold f_X11_isClause bX11_isClause_0
  rw [of_7 (by omega), z_b, if_neg (ow_ne ow_11 ow_7 (by omega) (by omega) (by omega)), of_8 (by omega), z_b, if_neg (ow_ne ow_11 ow_8 (by omega) (by omega) (by omega)), of_9 (by omega), z_b, if_neg (ow_ne ow_11 ow_9 (by omega) (by omega) (by omega)), of_10 (by omega), z_b, if_neg (ow_ne ow_11 ow_10 (by omega) (by omega) (by omega)), of_11 (by omega), z_b]
  exact if_pos rfl
theorem wid1_4 {q : Nat} (h : pkW b n q = ofW 11) : widW 1 b n q = some 4 := by
  rw [wid_1, h, if_neg (show ¬ ofW 11 = ofW 7 by rw [ow_11, ow_7]; omega), if_neg (show ¬ ofW 11 = ofW 8 by rw [ow_11, ow_8]; omega), if_neg (show ¬ ofW 11 = ofW 9 by rw [ow_11, ow_9]; omega), if_neg (show ¬ ofW 11 = ofW 10 by rw [ow_11, ow_10]; omega), if_pos rfl]
theorem isC_5 (hu : 700 ≤ u) : f_X11_isClause u (nI (ofW 12)) = some (1 : Int32) := by
  unfold f_X11_isClause bX11_isClause_0
  rw [of_7 (by omega), z_b, if_neg (ow_ne ow_12 ow_7 (by omega) (by omega) (by omega)), of_8 (by omega), z_b, if_neg (ow_ne ow_12 ow_8 (by omega) (by omega) (by omega)), of_9 (by omega), z_b, if_neg (ow_ne ow_12 ow_9 (by omega) (by omega) (by omega)), of_10 (by omega), z_b, if_neg (ow_ne ow_12 ow_10 (by omega) (by omega) (by omega)), of_11 (by omega), z_b, if_neg (ow_ne ow_12 ow_11 (by omega) (by omega) (by omega)), of_12 (by omega), z_b]
  exact if_pos rfl
theorem wid1_5 {q : Nat} (h : pkW b n q = ofW 12) : widW 1 b n q = some 5 := by
  rw [wid_1, h, if_neg (show ¬ ofW 12 = ofW 7 by rw [ow_12, ow_7]; omega), if_neg (show ¬ ofW 12 = ofW 8 by rw [ow_12, ow_8]; omega), if_neg (show ¬ ofW 12 = ofW 9 by rw [ow_12, ow_9]; omega), if_neg (show ¬ ofW 12 = ofW 10 by rw [ow_12, ow_10]; omega), if_neg (show ¬ ofW 12 = ofW 11 by rw [ow_12, ow_11]; omega), if_pos rfl]
theorem isC_6 (hu : 700 ≤ u) : f_X11_isClause u (nI (ofW 13)) = some (1 : Int32) := by
  unfold f_X11_isClause bX11_isClause_0
  rw [of_7 (by omega), z_b, if_neg (ow_ne ow_13 ow_7 (by omega) (by omega) (by omega)), of_8 (by omega), z_b, if_neg (ow_ne ow_13 ow_8 (by omega) (by omega) (by omega)), of_9 (by omega), z_b, if_neg (ow_ne ow_13 ow_9 (by omega) (by omega) (by omega)), of_10 (by omega), z_b, if_neg (ow_ne ow_13 ow_10 (by omega) (by omega) (by omega)), of_11 (by omega), z_b, if_neg (ow_ne ow_13 ow_11 (by omega) (by omega) (by omega)), of_12 (by omega), z_b, if_neg (ow_ne ow_13 ow_12 (by omega) (by omega) (by omega)), of_13 (by omega), z_b]
  exact if_pos rfl
theorem wid1_6 {q : Nat} (h : pkW b n q = ofW 13) : widW 1 b n q = some 6 := by
  rw [wid_1, h, if_neg (show ¬ ofW 13 = ofW 7 by rw [ow_13, ow_7]; omega), if_neg (show ¬ ofW 13 = ofW 8 by rw [ow_13, ow_8]; omega), if_neg (show ¬ ofW 13 = ofW 9 by rw [ow_13, ow_9]; omega), if_neg (show ¬ ofW 13 = ofW 10 by rw [ow_13, ow_10]; omega), if_neg (show ¬ ofW 13 = ofW 11 by rw [ow_13, ow_11]; omega), if_neg (show ¬ ofW 13 = ofW 12 by rw [ow_13, ow_12]; omega), if_pos rfl]
theorem isC_7 (hu : 700 ≤ u) : f_X11_isClause u (nI (ofW 14)) = some (1 : Int32) := by
  unfold f_X11_isClause bX11_isClause_0
  rw [of_7 (by omega), z_b, if_neg (ow_ne ow_14 ow_7 (by omega) (by omega) (by omega)), of_8 (by omega), z_b, if_neg (ow_ne ow_14 ow_8 (by omega) (by omega) (by omega)), of_9 (by omega), z_b, if_neg (ow_ne ow_14 ow_9 (by omega) (by omega) (by omega)), of_10 (by omega), z_b, if_neg (ow_ne ow_14 ow_10 (by omega) (by omega) (by omega)), of_11 (by omega), z_b, if_neg (ow_ne ow_14 ow_11 (by omega) (by omega) (by omega)), of_12 (by omega), z_b, if_neg (ow_ne ow_14 ow_12 (by omega) (by omega) (by omega)), of_13 (by omega), z_b, if_neg (ow_ne ow_14 ow_13 (by omega) (by omega) (by omega)), of_14 (by omega), z_b]
  exact if_pos rfl
theorem wid1_7 {q : Nat} (h : pkW b n q = ofW 14) : widW 1 b n q = some 7 := by
  rw [wid_1, h, if_neg (show ¬ ofW 14 = ofW 7 by rw [ow_14, ow_7]; omega), if_neg (show ¬ ofW 14 = ofW 8 by rw [ow_14, ow_8]; omega), if_neg (show ¬ ofW 14 = ofW 9 by rw [ow_14, ow_9]; omega), if_neg (show ¬ ofW 14 = ofW 10 by rw [ow_14, ow_10]; omega), if_neg (show ¬ ofW 14 = ofW 11 by rw [ow_14, ow_11]; omega), if_neg (show ¬ ofW 14 = ofW 12 by rw [ow_14, ow_12]; omega), if_neg (show ¬ ofW 14 = ofW 13 by rw [ow_14, ow_13]; omega), if_pos rfl]
theorem isC_no (hu : 700 ≤ u) {q : Nat} (h7 : ¬ pkW b n q = ofW 7) (h8 : ¬ pkW b n q = ofW 8) (h9 : ¬ pkW b n q = ofW 9) (h10 : ¬ pkW b n q = ofW 10) (h11 : ¬ pkW b n q = ofW 11) (h12 : ¬ pkW b n q = ofW 12) (h13 : ¬ pkW b n q = ofW 13) (h14 : ¬ pkW b n q = ofW 14) : f_X11_isClause u (nI (pkW b n q)) = some (0 : Int32) := by
  unfold f_X11_isClause bX11_isClause_0
  rw [of_7 (by omega), z_b, if_neg (pk_ne ow_7 (by omega) h7), of_8 (by omega), z_b, if_neg (pk_ne ow_8 (by omega) h8), of_9 (by omega), z_b, if_neg (pk_ne ow_9 (by omega) h9), of_10 (by omega), z_b, if_neg (pk_ne ow_10 (by omega) h10), of_11 (by omega), z_b, if_neg (pk_ne ow_11 (by omega) h11), of_12 (by omega), z_b, if_neg (pk_ne ow_12 (by omega) h12), of_13 (by omega), z_b, if_neg (pk_ne ow_13 (by omega) h13), of_14 (by omega), z_b, if_neg (pk_ne ow_14 (by omega) h14)]
theorem wid1_no {q : Nat} (h7 : ¬ pkW b n q = ofW 7) (h8 : ¬ pkW b n q = ofW 8) (h9 : ¬ pkW b n q = ofW 9) (h10 : ¬ pkW b n q = ofW 10) (h11 : ¬ pkW b n q = ofW 11) (h12 : ¬ pkW b n q = ofW 12) (h13 : ¬ pkW b n q = ofW 13) (h14 : ¬ pkW b n q = ofW 14) : widW 1 b n q = none := by
  rw [wid_1, if_neg h7, if_neg h8, if_neg h9, if_neg h10, if_neg h11, if_neg h12, if_neg h13, if_neg h14]
theorem cls (T : TXT b n t1 t2) (hu : 700 ≤ u) (P : pOK p) (hs4 : s ≤ 4) (X : PX p s x0 x1 x7 x8 x9 x10 x6 a1 a2 a3 a4 a5 a6) (M : PM p s m18 m19 m20 m21 m22 m23 m24 b3 b4 b5 b6) {v q : Nat} (z : v = 0 → ∀ c, c < 48 → pK p c = 0 ∧ pB p c = 0) (hv : v ≤ 60) (hq : q ≤ n) (hmore : sk b n q < n) (st pl bk : Int32) (m : Nat) :
    ∃ o, f_X5_readClause u x0 x1 x7 x8 x9 x10 x6 a1 a2 a3 a4 a5 a6 (nI n) (nI (sk b n q)) st (0 : Int32) pl t1 (nI v) = some o ∧ ((v < 60 ∧ ∃ o', OKC n pl o o' ∧ bX11_pit_44 u t2 (m + 2) r0 r2 (nI n) (nI q) (-1 : Int32) bk r7 r8 m18 m19 m20 m21 m22 m23 m24 r25 r26 r27 r28 r29 r30 r42 r43 r54 r65 ra1 b3 b4 b5 b6 ra7 ra8 ra9 ra10 ra15 ra20 (nI v) = k_b (f_X11_sign u (nI n) o'.1 o'.2.1 o'.2.2.1 t2 (59 : Int32)) (fun r179 => bX11_pit_44 u t2 (m + 1) r0 r2 (nI n) r179.1 r179.2.1 r179.2.2 r7 r8 o'.2.2.2.1 o'.2.2.2.2.1 o'.2.2.2.2.2.1 o'.2.2.2.2.2.2.1 o'.2.2.2.2.2.2.2.1 o'.2.2.2.2.2.2.2.2.1 o'.2.2.2.2.2.2.2.2.2.1 r25 r26 r27 r28 r29 r30 r42 r43 r54 r65 ra1 o'.2.2.2.2.2.2.2.2.2.2.1 o'.2.2.2.2.2.2.2.2.2.2.2.1 o'.2.2.2.2.2.2.2.2.2.2.2.2.1 o'.2.2.2.2.2.2.2.2.2.2.2.2.2 ra7 ra8 ra9 ra10 ra15 ra20 (nI (v + 1)))) ∨ (∃ o', FTC n o o' ∧ bX11_pit_44 u t2 (m + 2) r0 r2 (nI n) (nI q) (-1 : Int32) bk r7 r8 m18 m19 m20 m21 m22 m23 m24 r25 r26 r27 r28 r29 r30 r42 r43 r54 r65 ra1 b3 b4 b5 b6 ra7 ra8 ra9 ra10 ra15 ra20 (nI v) = bX11_pit_188 u t2 r0 r2 (nI n) o'.1 o'.2.1 o'.2.2.1 r7 r8 o'.2.2.2.1 o'.2.2.2.2.1 o'.2.2.2.2.2.1 o'.2.2.2.2.2.2.1 o'.2.2.2.2.2.2.2.1 o'.2.2.2.2.2.2.2.2.1 o'.2.2.2.2.2.2.2.2.2.1 r25 r26 r27 r28 r29 r30 r42 r43 r54 r65 ra1 o'.2.2.2.2.2.2.2.2.2.2.1 o'.2.2.2.2.2.2.2.2.2.2.2.1 o'.2.2.2.2.2.2.2.2.2.2.2.2.1 o'.2.2.2.2.2.2.2.2.2.2.2.2.2 ra7 ra8 ra9 ra10 ra15 ra20)) := by
  have hn := T.1
  have hs := sk_le b hq
  have si := sk_id b hq
  have hwl := wl_le b hs
  have HX := X
  have HM := M
  obtain ⟨rfl, rfl, rfl, rfl, rfl, rfl, X6, XK, XP, XO⟩ := X
  obtain ⟨rfl, rfl, MD, rfl, rfl, rfl, rfl, MK, MP, MO⟩ := M
  have bad : ∀ (k q' : Nat) (st' : Int32), 1 ≤ k → k ≤ 4 → q' ≤ n → f_X5_readClause u (nI (pW p)) (nI (pH p)) (nI s) (nI (pC p)) (nI (pSt p)) (nI (pO p)) x6 a1 a2 a3 a4 a5 a6 (nI n) (nI (sk b n q)) st (0 : Int32) pl t1 (nI v) = some (nI (pW p), nI (pH p), nI s, nI (pC p), nI (pSt p), nI (pO p), x6, a1, a2, a3, a4, a5, a6, nI q', st', nI k, nI (sk b n q)) → (∃ v3, bX11_pit_44 u t2 (m + 2) r0 r2 (nI n) (nI q) (-1 : Int32) bk r7 r8 (nI (pW p)) (nI (pH p)) m20 (nI s) (nI (pC p)) (nI (pSt p)) (nI (pO p)) r25 r26 r27 r28 r29 r30 r42 r43 r54 r65 ra1 b3 b4 b5 b6 ra7 ra8 ra9 ra10 ra15 ra20 (nI v) = bX11_pit_157 u t2 (bX11_pit_44 u t2 (m + 1)) r0 r2 (nI n) (nI (sk b n q)) (nI (sk b n q)) (nI k) r7 r8 (nI (pW p)) (nI (pH p)) m20 (nI s) (nI (pC p)) (nI (pSt p)) (nI (pO p)) r25 r26 r27 r28 r29 r30 r42 r43 r54 r65 ra1 b3 b4 b5 b6 ra7 ra8 ra9 ra10 ra15 ra20 (nI v) v3) → ∃ o, f_X5_readClause u (nI (pW p)) (nI (pH p)) (nI s) (nI (pC p)) (nI (pSt p)) (nI (pO p)) x6 a1 a2 a3 a4 a5 a6 (nI n) (nI (sk b n q)) st (0 : Int32) pl t1 (nI v) = some o ∧ ((v < 60 ∧ ∃ o', OKC n pl o o' ∧ bX11_pit_44 u t2 (m + 2) r0 r2 (nI n) (nI q) (-1 : Int32) bk r7 r8 (nI (pW p)) (nI (pH p)) m20 (nI s) (nI (pC p)) (nI (pSt p)) (nI (pO p)) r25 r26 r27 r28 r29 r30 r42 r43 r54 r65 ra1 b3 b4 b5 b6 ra7 ra8 ra9 ra10 ra15 ra20 (nI v) = k_b (f_X11_sign u (nI n) o'.1 o'.2.1 o'.2.2.1 t2 (59 : Int32)) (fun r179 => bX11_pit_44 u t2 (m + 1) r0 r2 (nI n) r179.1 r179.2.1 r179.2.2 r7 r8 o'.2.2.2.1 o'.2.2.2.2.1 o'.2.2.2.2.2.1 o'.2.2.2.2.2.2.1 o'.2.2.2.2.2.2.2.1 o'.2.2.2.2.2.2.2.2.1 o'.2.2.2.2.2.2.2.2.2.1 r25 r26 r27 r28 r29 r30 r42 r43 r54 r65 ra1 o'.2.2.2.2.2.2.2.2.2.2.1 o'.2.2.2.2.2.2.2.2.2.2.2.1 o'.2.2.2.2.2.2.2.2.2.2.2.2.1 o'.2.2.2.2.2.2.2.2.2.2.2.2.2 ra7 ra8 ra9 ra10 ra15 ra20 (nI (v + 1)))) ∨ (∃ o', FTC n o o' ∧ bX11_pit_44 u t2 (m + 2) r0 r2 (nI n) (nI q) (-1 : Int32) bk r7 r8 (nI (pW p)) (nI (pH p)) m20 (nI s) (nI (pC p)) (nI (pSt p)) (nI (pO p)) r25 r26 r27 r28 r29 r30 r42 r43 r54 r65 ra1 b3 b4 b5 b6 ra7 ra8 ra9 ra10 ra15 ra20 (nI v) = bX11_pit_188 u t2 r0 r2 (nI n) o'.1 o'.2.1 o'.2.2.1 r7 r8 o'.2.2.2.1 o'.2.2.2.2.1 o'.2.2.2.2.2.1 o'.2.2.2.2.2.2.1 o'.2.2.2.2.2.2.2.1 o'.2.2.2.2.2.2.2.2.1 o'.2.2.2.2.2.2.2.2.2.1 r25 r26 r27 r28 r29 r30 r42 r43 r54 r65 ra1 o'.2.2.2.2.2.2.2.2.2.2.1 o'.2.2.2.2.2.2.2.2.2.2.2.1 o'.2.2.2.2.2.2.2.2.2.2.2.2.1 o'.2.2.2.2.2.2.2.2.2.2.2.2.2 ra7 ra8 ra9 ra10 ra15 ra20)) := by
    intro k q' st' h1 h2 h3 e1 ⟨v3, e2⟩
    refine ⟨_, e1, Or.inr ⟨(nI (sk b n q), nI (sk b n q), nI k, nI (pW p), nI (pH p), m20, nI s, nI (pC p), nI (pSt p), nI (pO p), b3, b4, b5, b6), ⟨k, sk b n q, q', pH p, h1, h2, hs, h3, P.2.1.2, rfl, rfl, rfl, rfl, rfl, rfl⟩, ?_⟩⟩
    rw [e2]
    unfold bX11_pit_157
    rw [t_fineF (show sk b n q < 2147483648 by omega), z_b, if_pos rfl]
  have fin : ∀ (X : Option cXo) (w : Nat), v < 60 → OUTC n pl X (f_X11_readClause u (nI n) (nI (sk b n q + wl b n (sk b n q))) (-1 : Int32) bk (nI (pW p)) (nI (pH p)) m20 (nI s) (nI (pC p)) (nI (pSt p)) (nI (pO p)) t2 b3 b4 b5 b6 (nI w)) → f_X5_readClause u (nI (pW p)) (nI (pH p)) (nI s) (nI (pC p)) (nI (pSt p)) (nI (pO p)) x6 a1 a2 a3 a4 a5 a6 (nI n) (nI (sk b n q)) st (0 : Int32) pl t1 (nI v) = X → bX11_pit_44 u t2 (m + 2) r0 r2 (nI n) (nI q) (-1 : Int32) bk r7 r8 (nI (pW p)) (nI (pH p)) m20 (nI s) (nI (pC p)) (nI (pSt p)) (nI (pO p)) r25 r26 r27 r28 r29 r30 r42 r43 r54 r65 ra1 b3 b4 b5 b6 ra7 ra8 ra9 ra10 ra15 ra20 (nI v) = bX11_pit_157 u t2 (bX11_pit_44 u t2 (m + 1)) r0 r2 (nI n) (nI (sk b n q)) (-1 : Int32) bk r7 r8 (nI (pW p)) (nI (pH p)) m20 (nI s) (nI (pC p)) (nI (pSt p)) (nI (pO p)) r25 r26 r27 r28 r29 r30 r42 r43 r54 r65 ra1 b3 b4 b5 b6 ra7 ra8 ra9 ra10 ra15 ra20 (nI v) (nI w) → ∃ o, f_X5_readClause u (nI (pW p)) (nI (pH p)) (nI s) (nI (pC p)) (nI (pSt p)) (nI (pO p)) x6 a1 a2 a3 a4 a5 a6 (nI n) (nI (sk b n q)) st (0 : Int32) pl t1 (nI v) = some o ∧ ((v < 60 ∧ ∃ o', OKC n pl o o' ∧ bX11_pit_44 u t2 (m + 2) r0 r2 (nI n) (nI q) (-1 : Int32) bk r7 r8 (nI (pW p)) (nI (pH p)) m20 (nI s) (nI (pC p)) (nI (pSt p)) (nI (pO p)) r25 r26 r27 r28 r29 r30 r42 r43 r54 r65 ra1 b3 b4 b5 b6 ra7 ra8 ra9 ra10 ra15 ra20 (nI v) = k_b (f_X11_sign u (nI n) o'.1 o'.2.1 o'.2.2.1 t2 (59 : Int32)) (fun r179 => bX11_pit_44 u t2 (m + 1) r0 r2 (nI n) r179.1 r179.2.1 r179.2.2 r7 r8 o'.2.2.2.1 o'.2.2.2.2.1 o'.2.2.2.2.2.1 o'.2.2.2.2.2.2.1 o'.2.2.2.2.2.2.2.1 o'.2.2.2.2.2.2.2.2.1 o'.2.2.2.2.2.2.2.2.2.1 r25 r26 r27 r28 r29 r30 r42 r43 r54 r65 ra1 o'.2.2.2.2.2.2.2.2.2.2.1 o'.2.2.2.2.2.2.2.2.2.2.2.1 o'.2.2.2.2.2.2.2.2.2.2.2.2.1 o'.2.2.2.2.2.2.2.2.2.2.2.2.2 ra7 ra8 ra9 ra10 ra15 ra20 (nI (v + 1)))) ∨ (∃ o', FTC n o o' ∧ bX11_pit_44 u t2 (m + 2) r0 r2 (nI n) (nI q) (-1 : Int32) bk r7 r8 (nI (pW p)) (nI (pH p)) m20 (nI s) (nI (pC p)) (nI (pSt p)) (nI (pO p)) r25 r26 r27 r28 r29 r30 r42 r43 r54 r65 ra1 b3 b4 b5 b6 ra7 ra8 ra9 ra10 ra15 ra20 (nI v) = bX11_pit_188 u t2 r0 r2 (nI n) o'.1 o'.2.1 o'.2.2.1 r7 r8 o'.2.2.2.1 o'.2.2.2.2.1 o'.2.2.2.2.2.1 o'.2.2.2.2.2.2.1 o'.2.2.2.2.2.2.2.1 o'.2.2.2.2.2.2.2.2.1 o'.2.2.2.2.2.2.2.2.2.1 r25 r26 r27 r28 r29 r30 r42 r43 r54 r65 ra1 o'.2.2.2.2.2.2.2.2.2.2.1 o'.2.2.2.2.2.2.2.2.2.2.2.1 o'.2.2.2.2.2.2.2.2.2.2.2.2.1 o'.2.2.2.2.2.2.2.2.2.2.2.2.2 ra7 ra8 ra9 ra10 ra15 ra20)) := by
    intro X w vl hO e1 e2
    obtain ⟨o, o', h1, h2, h3⟩ := hO
    have e3 : bX11_pit_44 u t2 (m + 2) r0 r2 (nI n) (nI q) (-1 : Int32) bk r7 r8 (nI (pW p)) (nI (pH p)) m20 (nI s) (nI (pC p)) (nI (pSt p)) (nI (pO p)) r25 r26 r27 r28 r29 r30 r42 r43 r54 r65 ra1 b3 b4 b5 b6 ra7 ra8 ra9 ra10 ra15 ra20 (nI v) = k_b (f_X11_sign u (nI n) o'.1 o'.2.1 o'.2.2.1 t2 (59 : Int32)) (fun r179 => bX11_pit_44 u t2 (m + 1) r0 r2 (nI n) r179.1 r179.2.1 r179.2.2 r7 r8 o'.2.2.2.1 o'.2.2.2.2.1 o'.2.2.2.2.2.1 o'.2.2.2.2.2.2.1 o'.2.2.2.2.2.2.2.1 o'.2.2.2.2.2.2.2.2.1 o'.2.2.2.2.2.2.2.2.2.1 r25 r26 r27 r28 r29 r30 r42 r43 r54 r65 ra1 o'.2.2.2.2.2.2.2.2.2.2.1 o'.2.2.2.2.2.2.2.2.2.2.2.1 o'.2.2.2.2.2.2.2.2.2.2.2.2.1 o'.2.2.2.2.2.2.2.2.2.2.2.2.2 ra7 ra8 ra9 ra10 ra15 ra20 (nI (v + 1))) := by
      rw [e2]
      unfold bX11_pit_157
      rw [t_fine, z_b, if_neg d_10, t_pass T hu hs, z_b, h2, z_b, show nI v + (1 : Int32) = nI (v + 1) from nI_1 v]
    refine ⟨o, e1.trans h1, ?_⟩
    rcases h3 with h3 | h3
    · exact Or.inl ⟨vl, o', h3, e3⟩
    · refine Or.inr ⟨o', h3, ?_⟩
      obtain ⟨k, f, q', H, g1, g2, g3, g4, g5, g6, g7, g8, g9, g10, g11⟩ := h3
      rw [e3, g10, t_signMF (show f < 2147483648 by omega), z_b, bX11_pit_44, t_fineF (show f < 2147483648 by omega), z_b, if_pos rfl]
  have r44 : bX11_pit_44 u t2 (m + 2) r0 r2 (nI n) (nI q) (-1 : Int32) bk r7 r8 (nI (pW p)) (nI (pH p)) m20 (nI s) (nI (pC p)) (nI (pSt p)) (nI (pO p)) r25 r26 r27 r28 r29 r30 r42 r43 r54 r65 ra1 b3 b4 b5 b6 ra7 ra8 ra9 ra10 ra15 ra20 (nI v) = k_b (f_X11_isClause u (nI (pkW b n (sk b n q)))) (fun r64 => (if r64 = (0 : Int32) then bX11_pit_157 u t2 (bX11_pit_44 u t2 (m + 1)) r0 r2 (nI n) (nI (sk b n q)) (nI (sk b n q)) (1 : Int32) r7 r8 (nI (pW p)) (nI (pH p)) m20 (nI s) (nI (pC p)) (nI (pSt p)) (nI (pO p)) r25 r26 r27 r28 r29 r30 r42 r43 r54 r65 ra1 b3 b4 b5 b6 ra7 ra8 ra9 ra10 ra15 ra20 (nI v) (nI (pkW b n (sk b n q))) else (if nI v = (60 : Int32) then bX11_pit_123 u t2 (bX11_pit_44 u t2 (m + 1)) r0 r2 (nI n) (nI (sk b n q)) (-1 : Int32) bk r7 r8 (nI (pW p)) (nI (pH p)) m20 (nI s) (nI (pC p)) (nI (pSt p)) (nI (pO p)) r25 r26 r27 r28 r29 r30 r42 r43 r54 r65 ra1 b3 b4 b5 b6 ra7 ra8 ra9 ra10 ra15 ra20 (nI v) (nI (pkW b n (sk b n q))) else k_b (f_X11_of u 10) (fun r91 => (if nI (pkW b n (sk b n q)) = r91 then (if nI s = (4 : Int32) then bX11_pit_123 u t2 (bX11_pit_44 u t2 (m + 1)) r0 r2 (nI n) (nI (sk b n q)) (-1 : Int32) bk r7 r8 (nI (pW p)) (nI (pH p)) m20 (nI s) (nI (pC p)) (nI (pSt p)) (nI (pO p)) r25 r26 r27 r28 r29 r30 r42 r43 r54 r65 ra1 b3 b4 b5 b6 ra7 ra8 ra9 ra10 ra15 ra20 (nI v) (nI (pkW b n (sk b n q))) else bX11_pit_105 u t2 (bX11_pit_44 u t2 (m + 1)) r0 r2 (nI n) (nI (sk b n q)) (-1 : Int32) bk r7 r8 (nI (pW p)) (nI (pH p)) m20 (nI s) (nI (pC p)) (nI (pSt p)) (nI (pO p)) r25 r26 r27 r28 r29 r30 r42 r43 r54 r65 ra1 b3 b4 b5 b6 ra7 ra8 ra9 ra10 ra15 ra20 (nI v) (nI (pkW b n (sk b n q)))) else bX11_pit_105 u t2 (bX11_pit_44 u t2 (m + 1)) r0 r2 (nI n) (nI (sk b n q)) (-1 : Int32) bk r7 r8 (nI (pW p)) (nI (pH p)) m20 (nI s) (nI (pC p)) (nI (pSt p)) (nI (pO p)) r25 r26 r27 r28 r29 r30 r42 r43 r54 r65 ra1 b3 b4 b5 b6 ra7 ra8 ra9 ra10 ra15 ra20 (nI v) (nI (pkW b n (sk b n q)))))))) := by
    rw [bX11_pit_44, t_fine, z_b, if_neg d_10, t_moreM T hu hq, z_b, decide_eq_true hmore, if_neg (show ¬ zB true = (0 : Int32) from d_10), t_word T hu hs, z_b, si]
    rfl
  have xW : ∀ j, widW 1 b n (sk b n q) = some j → v < 60 → f_X5_readClause u (nI (pW p)) (nI (pH p)) (nI s) (nI (pC p)) (nI (pSt p)) (nI (pO p)) x6 a1 a2 a3 a4 a5 a6 (nI n) (nI (sk b n q)) st (0 : Int32) pl t1 (nI v) = bX5_readClause_22 u (nI n) t1 (nI (pW p)) (nI (pH p)) (nI s) (nI (pC p)) (nI (pSt p)) (nI (pO p)) x6 a1 a2 a3 a4 a5 a6 (nI (sk b n q + wl b n (sk b n q))) (nI (sk b n q)) (0 : Int32) pl (nI v) (nI j) := by
    intro j e hv
    unfold f_X5_readClause bX5_readClause_0
    rw [t_wordX T hu (si := 1) hs (by decide), si, e]
    dsimp only
    rw [if_pos rfl, z_b, if_pos (show nI v < (60 : Int32) from nI_lt (b := 60) hv (by omega))]
  have x60 : ∀ j, widW 1 b n (sk b n q) = some j → v = 60 → f_X5_readClause u (nI (pW p)) (nI (pH p)) (nI s) (nI (pC p)) (nI (pSt p)) (nI (pO p)) x6 a1 a2 a3 a4 a5 a6 (nI n) (nI (sk b n q)) st (0 : Int32) pl t1 (nI v) = some (nI (pW p), nI (pH p), nI s, nI (pC p), nI (pSt p), nI (pO p), x6, a1, a2, a3, a4, a5, a6, nI (sk b n q + wl b n (sk b n q)), nI (sk b n q), nI 3, nI (sk b n q)) := by
    intro j e hv
    unfold f_X5_readClause bX5_readClause_0
    rw [t_wordX T hu (si := 1) hs (by decide), si, e]
    dsimp only
    rw [if_pos rfl, z_b, if_neg (show ¬ nI v < (60 : Int32) from nI_nlt (b := 60) (by omega) (by omega)), t_fail, z_b]
    unfold bX5_readClause_22
    rw [t_goodF (show ¬ (3 : Int32) = 0 by decide), z_b, if_pos rfl]
    rfl
  by_cases w7 : pkW b n (sk b n q) = ofW 7
  · have eW := wid1_0 (b := b) (n := n) w7
    rw [w7, isC_0 hu, z_b, if_neg d_10] at r44
    by_cases v60 : v = 60
    · exact bad 3 _ _ (by omega) (by omega) hwl (x60 0 eW v60) ⟨nI (ofW 7), by rw [r44, if_pos (show nI v = (60 : Int32) by rw [v60]; rfl)]; unfold bX11_pit_123; rw [t_wrong, z_b]; rfl⟩
    have vl : v < 60 := by omega
    rw [if_neg (show ¬ nI v = (60 : Int32) from fun e => v60 ((nI_eq (b := 60) (by omega) (by omega)).mp e)), of_10 (by omega), z_b] at r44
    have eX := xW 0 eW vl
    rw [if_neg (ow_ne ow_7 ow_10 (by omega) (by omega) (by omega))] at r44
    unfold bX11_pit_105 at r44
    rw [of_14 (by omega), z_b, if_neg (ow_ne ow_7 ow_14 (by omega) (by omega) (by omega))] at r44
    unfold bX11_pit_135 at r44
    rw [of_7 (by omega), z_b, if_pos rfl] at r44
    by_cases v0 : v = 0
    · rw [if_pos (show nI v ≤ (0 : Int32) by rw [v0]; decide)] at r44
      subst v0
      exact fin _ _ vl (cl_0 T hu P hs4 HX HM (z rfl) hwl (nI (sk b n q)) pl bk (0 : Int32)) eX r44
    rw [if_neg (show ¬ nI v ≤ (0 : Int32) from nI_ge (a := 0) (by omega) (by omega)), t_wrong, z_b] at r44
    refine bad 4 (sk b n q + wl b n (sk b n q)) (nI (sk b n q)) (by omega) (by omega) hwl ?_ ⟨nI (ofW 7), r44⟩
    rw [eX, bX5_readClause_22, t_good, z_b, if_neg d_10, if_pos (show nI 0 = (0 : Int32) from rfl)]
    unfold f_X5_readSize bX5_readSize_0
    rw [if_neg (show ¬ nI v ≤ (0 : Int32) from nI_ge (a := 0) (by omega) (by omega)), t_fail, z_b, z_b]
    rfl
  by_cases w8 : pkW b n (sk b n q) = ofW 8
  · have eW := wid1_1 (b := b) (n := n) w8
    rw [w8, isC_1 hu, z_b, if_neg d_10] at r44
    by_cases v60 : v = 60
    · exact bad 3 _ _ (by omega) (by omega) hwl (x60 1 eW v60) ⟨nI (ofW 8), by rw [r44, if_pos (show nI v = (60 : Int32) by rw [v60]; rfl)]; unfold bX11_pit_123; rw [t_wrong, z_b]; rfl⟩
    have vl : v < 60 := by omega
    rw [if_neg (show ¬ nI v = (60 : Int32) from fun e => v60 ((nI_eq (b := 60) (by omega) (by omega)).mp e)), of_10 (by omega), z_b] at r44
    have eX := xW 1 eW vl
    rw [if_neg (ow_ne ow_8 ow_10 (by omega) (by omega) (by omega))] at r44
    unfold bX11_pit_105 at r44
    rw [of_14 (by omega), z_b, if_neg (ow_ne ow_8 ow_14 (by omega) (by omega) (by omega))] at r44
    unfold bX11_pit_135 at r44
    rw [of_7 (by omega), z_b, if_neg (ow_ne ow_8 ow_7 (by omega) (by omega) (by omega))] at r44
    exact fin _ _ vl (cl_1 T hu P hs4 HX HM hwl _ pl bk _) eX r44
  by_cases w9 : pkW b n (sk b n q) = ofW 9
  · have eW := wid1_2 (b := b) (n := n) w9
    rw [w9, isC_2 hu, z_b, if_neg d_10] at r44
    by_cases v60 : v = 60
    · exact bad 3 _ _ (by omega) (by omega) hwl (x60 2 eW v60) ⟨nI (ofW 9), by rw [r44, if_pos (show nI v = (60 : Int32) by rw [v60]; rfl)]; unfold bX11_pit_123; rw [t_wrong, z_b]; rfl⟩
    have vl : v < 60 := by omega
    rw [if_neg (show ¬ nI v = (60 : Int32) from fun e => v60 ((nI_eq (b := 60) (by omega) (by omega)).mp e)), of_10 (by omega), z_b] at r44
    have eX := xW 2 eW vl
    rw [if_neg (ow_ne ow_9 ow_10 (by omega) (by omega) (by omega))] at r44
    unfold bX11_pit_105 at r44
    rw [of_14 (by omega), z_b, if_neg (ow_ne ow_9 ow_14 (by omega) (by omega) (by omega))] at r44
    unfold bX11_pit_135 at r44
    rw [of_7 (by omega), z_b, if_neg (ow_ne ow_9 ow_7 (by omega) (by omega) (by omega))] at r44
    exact fin _ _ vl (cl_2 T hu P hs4 HX HM hwl _ pl bk _) eX r44
  by_cases w10 : pkW b n (sk b n q) = ofW 10
  · have eW := wid1_3 (b := b) (n := n) w10
    rw [w10, isC_3 hu, z_b, if_neg d_10] at r44
    by_cases v60 : v = 60
    · exact bad 3 _ _ (by omega) (by omega) hwl (x60 3 eW v60) ⟨nI (ofW 10), by rw [r44, if_pos (show nI v = (60 : Int32) by rw [v60]; rfl)]; unfold bX11_pit_123; rw [t_wrong, z_b]; rfl⟩
    have vl : v < 60 := by omega
    rw [if_neg (show ¬ nI v = (60 : Int32) from fun e => v60 ((nI_eq (b := 60) (by omega) (by omega)).mp e)), of_10 (by omega), z_b] at r44
    have eX := xW 3 eW vl
    rw [if_pos rfl] at r44
    by_cases s4 : s = 4
    · refine bad 3 (sk b n q + wl b n (sk b n q)) (nI (sk b n q)) (by omega) (by omega) hwl ?_ ⟨nI (ofW 10), by rw [r44, if_pos (show nI s = (4 : Int32) by rw [s4]; rfl)]; unfold bX11_pit_123; rw [t_wrong, z_b]; rfl⟩
      rw [eX, bX5_readClause_22, t_good, z_b, if_neg d_10, if_neg (show ¬ nI 3 = (0 : Int32) by decide), if_neg (show ¬ nI 3 = (1 : Int32) by decide), if_neg (show ¬ nI 3 = (2 : Int32) by decide), if_pos (show nI 3 = (3 : Int32) from rfl)]
      unfold f_X5_readShaft bX5_readShaft_0
      rw [if_neg (show ¬ nI s < (4 : Int32) from nI_nlt (b := 4) (by omega) (by omega)), t_fail, z_b, z_b]
      rfl
    rw [if_neg (show ¬ nI s = (4 : Int32) from fun e => s4 ((nI_eq (b := 4) (by omega) (by omega)).mp e))] at r44
    unfold bX11_pit_105 at r44
    rw [of_14 (by omega), z_b, if_neg (ow_ne ow_10 ow_14 (by omega) (by omega) (by omega))] at r44
    unfold bX11_pit_135 at r44
    rw [of_7 (by omega), z_b, if_neg (ow_ne ow_10 ow_7 (by omega) (by omega) (by omega))] at r44
    exact fin _ _ vl (cl_3 T hu P hs4 HX HM (by omega) hwl _ pl bk _) eX r44
  by_cases w11 : pkW b n (sk b n q) = ofW 11
  · have eW := wid1_4 (b := b) (n := n) w11
    rw [w11, isC_4 hu, z_b, if_neg d_10] at r44
    by_cases v60 : v = 60
    · exact bad 3 _ _ (by omega) (by omega) hwl (x60 4 eW v60) ⟨nI (ofW 11), by rw [r44, if_pos (show nI v = (60 : Int32) by rw [v60]; rfl)]; unfold bX11_pit_123; rw [t_wrong, z_b]; rfl⟩
    have vl : v < 60 := by omega
    rw [if_neg (show ¬ nI v = (60 : Int32) from fun e => v60 ((nI_eq (b := 60) (by omega) (by omega)).mp e)), of_10 (by omega), z_b] at r44
    have eX := xW 4 eW vl
    rw [if_neg (ow_ne ow_11 ow_10 (by omega) (by omega) (by omega))] at r44
    unfold bX11_pit_105 at r44
    rw [of_14 (by omega), z_b, if_neg (ow_ne ow_11 ow_14 (by omega) (by omega) (by omega))] at r44
    unfold bX11_pit_135 at r44
    rw [of_7 (by omega), z_b, if_neg (ow_ne ow_11 ow_7 (by omega) (by omega) (by omega))] at r44
    exact fin _ _ vl (cl_4 T hu P hs4 HX HM hwl _ pl bk _) eX r44
  by_cases w12 : pkW b n (sk b n q) = ofW 12
  · have eW := wid1_5 (b := b) (n := n) w12
    rw [w12, isC_5 hu, z_b, if_neg d_10] at r44
    by_cases v60 : v = 60
    · exact bad 3 _ _ (by omega) (by omega) hwl (x60 5 eW v60) ⟨nI (ofW 12), by rw [r44, if_pos (show nI v = (60 : Int32) by rw [v60]; rfl)]; unfold bX11_pit_123; rw [t_wrong, z_b]; rfl⟩
    have vl : v < 60 := by omega
    rw [if_neg (show ¬ nI v = (60 : Int32) from fun e => v60 ((nI_eq (b := 60) (by omega) (by omega)).mp e)), of_10 (by omega), z_b] at r44
    have eX := xW 5 eW vl
    rw [if_neg (ow_ne ow_12 ow_10 (by omega) (by omega) (by omega))] at r44
    unfold bX11_pit_105 at r44
    rw [of_14 (by omega), z_b, if_neg (ow_ne ow_12 ow_14 (by omega) (by omega) (by omega))] at r44
    unfold bX11_pit_135 at r44
    rw [of_7 (by omega), z_b, if_neg (ow_ne ow_12 ow_7 (by omega) (by omega) (by omega))] at r44
    exact fin _ _ vl (cl_5 T hu P hs4 HX HM hwl _ pl bk _) eX r44
  by_cases w13 : pkW b n (sk b n q) = ofW 13
  · have eW := wid1_6 (b := b) (n := n) w13
    rw [w13, isC_6 hu, z_b, if_neg d_10] at r44
    by_cases v60 : v = 60
    · exact bad 3 _ _ (by omega) (by omega) hwl (x60 6 eW v60) ⟨nI (ofW 13), by rw [r44, if_pos (show nI v = (60 : Int32) by rw [v60]; rfl)]; unfold bX11_pit_123; rw [t_wrong, z_b]; rfl⟩
    have vl : v < 60 := by omega
    rw [if_neg (show ¬ nI v = (60 : Int32) from fun e => v60 ((nI_eq (b := 60) (by omega) (by omega)).mp e)), of_10 (by omega), z_b] at r44
    have eX := xW 6 eW vl
    rw [if_neg (ow_ne ow_13 ow_10 (by omega) (by omega) (by omega))] at r44
    unfold bX11_pit_105 at r44
    rw [of_14 (by omega), z_b, if_neg (ow_ne ow_13 ow_14 (by omega) (by omega) (by omega))] at r44
    unfold bX11_pit_135 at r44
    rw [of_7 (by omega), z_b, if_neg (ow_ne ow_13 ow_7 (by omega) (by omega) (by omega))] at r44
    exact fin _ _ vl (cl_6 T hu P hs4 HX HM hwl _ pl bk _) eX r44
  by_cases w14 : pkW b n (sk b n q) = ofW 14
  · have eW := wid1_7 (b := b) (n := n) w14
    rw [w14, isC_7 hu, z_b, if_neg d_10] at r44
    by_cases v60 : v = 60
    · exact bad 3 _ _ (by omega) (by omega) hwl (x60 7 eW v60) ⟨nI (ofW 14), by rw [r44, if_pos (show nI v = (60 : Int32) by rw [v60]; rfl)]; unfold bX11_pit_123; rw [t_wrong, z_b]; rfl⟩
    have vl : v < 60 := by omega
    rw [if_neg (show ¬ nI v = (60 : Int32) from fun e => v60 ((nI_eq (b := 60) (by omega) (by omega)).mp e)), of_10 (by omega), z_b] at r44
    have eX := xW 7 eW vl
    rw [if_neg (ow_ne ow_14 ow_10 (by omega) (by omega) (by omega))] at r44
    unfold bX11_pit_105 at r44
    rw [of_14 (by omega), z_b, if_pos rfl] at r44
    have hO6 := P.2.2.2.2.1.1
    by_cases o6 : pO p = 6
    · refine bad 3 (sk b n q + wl b n (sk b n q)) (nI (sk b n q)) (by omega) (by omega) hwl ?_ ⟨nI (ofW 14), by rw [r44, if_pos (show nI (pO p) = (6 : Int32) by rw [o6]; rfl)]; unfold bX11_pit_123; rw [t_wrong, z_b]; rfl⟩
      rw [eX, bX5_readClause_22, t_good, z_b, if_neg d_10, if_neg (show ¬ nI 7 = (0 : Int32) by decide), if_neg (show ¬ nI 7 = (1 : Int32) by decide), if_neg (show ¬ nI 7 = (2 : Int32) by decide), if_neg (show ¬ nI 7 = (3 : Int32) by decide), if_neg (show ¬ nI 7 = (4 : Int32) by decide), if_neg (show ¬ nI 7 = (5 : Int32) by decide), if_neg (show ¬ nI 7 = (6 : Int32) by decide)]
      unfold f_X5_readOrder bX5_readOrder_0
      rw [if_neg (show ¬ nI (pO p) < (6 : Int32) from nI_nlt (b := 6) (by omega) (by omega)), t_fail, z_b, z_b]
      rfl
    rw [if_neg (show ¬ nI (pO p) = (6 : Int32) from fun e => o6 ((nI_eq (b := 6) (by omega) (by omega)).mp e))] at r44
    unfold bX11_pit_135 at r44
    rw [of_7 (by omega), z_b, if_neg (ow_ne ow_14 ow_7 (by omega) (by omega) (by omega))] at r44
    exact fin _ _ vl (cl_7 T hu P hs4 HX HM (by omega) hwl _ pl bk _) eX r44
  · have eW := wid1_no (b := b) (n := n) w7 w8 w9 w10 w11 w12 w13 w14
    rw [isC_no hu w7 w8 w9 w10 w11 w12 w13 w14, z_b, if_pos rfl] at r44
    refine bad 1 (sk b n q + wl b n (sk b n q)) (nI (sk b n q)) (by omega) (by omega) hwl ?_ ⟨_, r44⟩
    unfold f_X5_readClause bX5_readClause_0
    rw [t_wordX T hu (si := 1) hs (by decide), si, eW]
    dsimp only
    rw [t_fail, z_b, z_b]
    dsimp only
    have e22 : ∀ (a1' st' pl' v2 v3 : Int32), bX5_readClause_22 u (nI n) t1 (nI (pW p)) (nI (pH p)) (nI s) (nI (pC p)) (nI (pSt p)) (nI (pO p)) x6 a1 a2 a3 a4 a5 a6 a1' st' (1 : Int32) pl' v2 v3 = some (nI (pW p), nI (pH p), nI s, nI (pC p), nI (pSt p), nI (pO p), x6, a1, a2, a3, a4, a5, a6, a1', st', (1 : Int32), pl') := by
      intro a1' st' pl' v2 v3
      unfold bX5_readClause_22
      rw [t_goodF (show ¬ (1 : Int32) = 0 by decide), z_b, if_pos rfl]
    by_cases y : nI v < (60 : Int32)
    · rw [if_pos y, e22]; rfl
    · rw [if_neg y, t_failF (show ¬ (1 : Int32) = 0 by decide), z_b, e22]; rfl
end PTD
