/-! UNDO, IMAGE, RESTORE -/
section UIR
variable {S : aT} {h : k_H}
def pcI (p : Nat) : Bool := Nat.blt p 103 && !(p == 0 || (Nat.ble 26 p && Nat.ble p 30 || (p == 35 || (p == 39 || (p == 70 || (p == 90 || (p == 92 || p == 101)))))))
theorem Rel_im (R : Rel S h) {h' : k_H} (C : rZ_C h') (E : ∀ p, pcI p = true → Kp h h' p) (f25 : h'.2.1 70 25 = h.2.1 70 25) (f26 : h'.2.1 70 26 = h.2.1 70 26) (f27 : h'.2.1 70 27 = h.2.1 70 27) (f28 : h'.2.1 70 28 = h.2.1 70 28) (f30 : h'.2.1 70 30 = h.2.1 70 30) (f54 : h'.2.1 70 54 = h.2.1 70 54) (f2 : h'.2.1 70 2 = h.2.1 70 2) (f8 : h'.2.1 70 8 = h.2.1 70 8) {M : aM} {W I : Nat} {pa : Nat → aM} {iw : Nat → Nat} {im : Nat → aM} {ip : Nat → Nat → aM} (N : rZ_N (rS_P S) M h') (st : h'.2.1 0 14 = h'.2.1 70 43) (w : rZ_W (rS_P S) W pa h') (i : rZ_I (rS_P S) I iw im ip h') : ∃ S', Rel S' h' := by
  obtain ⟨-, hP, hL, -, hB, hT, hR, -, -⟩ := R
  have e : ∀ p, pcI p = true → h'.2.1 p = h.2.1 p := fun p hp => (E p hp).1
  refine ⟨(rS_P S, M, rS_F S, rS_H S, rS_L S, rS_B S, W, pa, I, iw, im, ip), C, ?_, ?_, N, ?_, ?_, ?_, w, i⟩
  · show rZ_P (rS_P S) h'
    unfold rZ_P
    rw [e 3 rfl, (E 3 rfl).2, e 4 rfl, e 5 rfl, e 6 rfl, e 7 rfl, e 8 rfl, e 9 rfl, e 77 rfl, e 78 rfl, e 79 rfl, e 80 rfl, f25, f26, f27, f28, f30]
    exact hP
  · show rZ_L (rS_F S) (rS_H S) h'
    unfold rZ_L
    rw [e 17 rfl, e 18 rfl, e 20 rfl, e 21 rfl, e 83 rfl, e 84 rfl, e 85 rfl]
    exact hL
  · show rZ_B (rS_L S) (rS_B S) h'
    unfold rZ_B
    rw [e 58 rfl, e 59 rfl, e 96 rfl, f54]
    exact hB
  · unfold rZ_T
    rw [e 1 rfl, e 2 rfl, e 72 rfl, f2]
    exact hT
  · unfold rZ_R
    rw [e 1 rfl, e 69 rfl, e 71 rfl, f8]
    exact ⟨hR.1, hR.2.1, st⟩
theorem oX_C {h : k_H} (C : rZ_C h) : k_oX h.1 := by
  obtain ⟨⟨rest, e⟩, L, -⟩ := C
  exact ⟨by rw [e]; rfl, L.2.2.2.1⟩
theorem len_C {h : k_H} (C : rZ_C h) : 103 ≤ h.1.length := by
  obtain ⟨⟨rest, e⟩, -⟩ := C
  rw [e, List.length_append, show rZ_sh.length = 103 from rfl]
  omega
theorem C_ap {h : k_H} {us : List k_U} (C : rZ_C h) : rZ_C (k_ap us h) := rZ_Cq C (k_ap_sh us h) (k_ap_rf us h)
theorem Kp_sI {h : k_H} {p k : Nat} {v : Int32} {x : Nat} (hx : x ≠ p) : Kp h (k_sI p k v h) x := ⟨by funext k'; show (if x = p then (if k' = k then v else h.2.1 x k') else h.2.1 x k') = h.2.1 x k'; rw [if_neg hx], rfl⟩
theorem Kp_sA {h : k_H} {p : Nat} {g : Nat → Int32} {x : Nat} (hx : x ≠ p) : Kp h (k_sA p g h) x := ⟨by show k_ua h.2.1 p g x = _; unfold k_ua; rw [if_neg hx], rfl⟩
theorem C_sI {h : k_H} {p k : Nat} {v : Int32} (C : rZ_C h) : rZ_C (k_sI p k v h) := rZ_Cq C rfl rfl
theorem C_sA {h : k_H} {p : Nat} {g : Nat → Int32} (C : rZ_C h) : rZ_C (k_sA p g h) := rZ_Cq C rfl rfl
theorem C_load {h : k_H} {p j : Nat} (C : rZ_C h) : rZ_C (k_load p j 26 h) := by
  refine rZ_Cq C (k_load_sh p j 26 h) ?_
  unfold k_load
  cases h.2.2.2 p j with
  | none => rfl
  | some q => exact k_cpM_R _ _ _
theorem load_R {h : k_H} {p j a : Nat} : (k_load p j a h).2.2.2 = h.2.2.2 := by
  unfold k_load
  cases h.2.2.2 p j with
  | none => rfl
  | some q => exact k_cpM_R _ _ _
/-- kept mines stay, when nothing above 103 changes -/
theorem KM_c {h h' : k_H} {p j : Nat} {m : aM} (C : rZ_C h) (hp : p = 36 ∨ p = 37 ∨ p = 38) (e2 : h'.2.2.2 = h.2.2.2) (E : ∀ x, 103 ≤ x → Kp h h' x) (z : KM h p j m) : KM h' p j m := by
  obtain ⟨q, e, z⟩ := z
  have := rZ_103 C hp e
  exact ⟨q, by rw [e2]; exact e, rZ_Mx (fun x h1 h2 => E x (by omega)) z⟩
theorem LS_C {h : k_H} (C : rZ_C h) : k_LS h := rZ_CLS C
/-- the works and images of the relation, as kept mines -/
theorem W_KM (R : Rel S h) {j : Nat} (hj : j < rS_W S) : KM h 36 j (rS_Pa S j) := by
  obtain ⟨q, e, z, -⟩ := R.2.2.2.2.2.2.2.1.2.2.2 j hj
  exact ⟨q, e, z⟩
theorem ap_ge {us : List k_U} (hu : us.all (fun u => decide (u.1 < 103)) = true) {h : k_H} : ∀ x, 103 ≤ x → Kp h (k_ap us h) x := fun x hx => ap_103 hu hx h
def pickI {A : Type} (I : Nat) (a : A) (f : Nat → A) (i : Nat) : A := if i = I then a else f i
theorem pick_eq {A : Type} (I : Nat) (a : A) (f : Nat → A) : pickI I a f I = a := if_pos rfl
theorem pick_ne {A : Type} {I i : Nat} (a : A) (f : Nat → A) (h : ¬ i = I) : pickI I a f i = f i := if_neg h
theorem WI_keep (R : Rel S h) {h' : k_H} (e2 : h'.2.2.2 = h.2.2.2) (e3 : ∀ p, 103 ≤ p → Kp h h' p) (e351 : h'.2.1 35 1 = h.2.1 35 1) (e355 : h'.2.1 35 5 = h.2.1 35 5) (e39 : h'.2.1 39 = h.2.1 39) (e92 : h'.2.1 92 = h.2.1 92) (e101 : h'.2.1 101 = h.2.1 101) (e42 : h'.2.1 70 42 = h.2.1 70 42) (e65 : h'.2.1 70 65 = h.2.1 70 65) : rZ_W (rS_P S) (rS_W S) (rS_Pa S) h' ∧ rZ_I (rS_P S) (rS_I S) (rS_IW S) (rS_IM S) (rS_IP S) h' := by
  have c := R.1
  refine ⟨?_, ?_⟩
  · obtain ⟨h1, h2, h3, h4⟩ := R.2.2.2.2.2.2.2.1
    refine ⟨h1, by rw [e351]; exact h2, by rw [e42]; exact h3, fun j hj => ?_⟩
    obtain ⟨q, g1, g2, g3, g4⟩ := h4 j hj
    exact ⟨q, by rw [e2]; exact g1, rZ_Mq e3 (rZ_103 c (Or.inl rfl) g1) g2, by rw [e92]; exact g3, g4⟩
  · obtain ⟨h1, h2, h3, h4⟩ := R.2.2.2.2.2.2.2.2
    refine ⟨h1, by rw [e355]; exact h2, by rw [e65]; exact h3, fun i hi => ?_⟩
    obtain ⟨g1, g2, g3, g4, ⟨q, g5, g6, g7⟩, g8⟩ := h4 i hi
    refine ⟨g1, by rw [e39]; exact g2, by rw [e101]; exact g3, g4, ⟨q, by rw [e2]; exact g5, rZ_Mq e3 (rZ_103 c (Or.inr (Or.inl rfl)) g5) g6, by rw [e101]; exact g7⟩, fun j hj => ?_⟩
    obtain ⟨q, k1, k2, k3, k4⟩ := g8 j hj
    exact ⟨q, by rw [e2]; exact k1, rZ_Mq e3 (rZ_103 c (Or.inr (Or.inr rfl)) k1) k2, by rw [e101]; exact k3, k4⟩
theorem KM_fin {h1 : k_H} {us : List k_U} (C1 : rZ_C h1) {p j : Nat} {m : aM} (hp : p = 36 ∨ p = 37 ∨ p = 38) (z : KM h1 p j m) {X : Prop} (x : X) (hu : us.all (fun u => decide (u.1 < 103)) = true) : ∃ q, (k_ap us h1).2.2.2 p j = some q ∧ rZ_M (k_ap us h1) q m ∧ X := by
  obtain ⟨q, e, z⟩ := KM_c C1 hp (k_ap_rf us h1) (ap_ge hu) z
  exact ⟨q, e, z, x⟩
set_option maxRecDepth 40000 in
theorem Q_6 {l : Launch} (R : Rel S h) (a1 a2 a3 a4 a5 : Int32) : q_6 l h a1 a2 a3 a4 a5 (nxt h) := by
  have C := R.1
  obtain ⟨w1, w2, w3, w4⟩ := R.2.2.2.2.2.2.2.1
  obtain ⟨i1, i2, i3, i4⟩ := R.2.2.2.2.2.2.2.2
  have hst := R.2.2.2.2.2.2.1.2.2
  cases hW : rS_W S with
  | zero =>
    rw [hW] at w2 w3
    refine ⟨0, 0, _, by omega, by omega, c_X10_undo0 l h (oX_C C) C.2.1.1 w2, ?_⟩
    rintro v h1 ⟨rfl, hh⟩
    have hh2 : h = h1 := hh.symm
    subst hh2
    have e2 : f_X11_undo 700 (h.2.1 70 0) (h.2.1 70 42) (h.2.1 70 43) (h.2.1 90) (h.2.1 92) = some ((-1 : Int32), (0 : Int32), h.2.1 70 42, h.2.1 70 43, h.2.1 90) := by
      unfold f_X11_undo bX11_undo_0
      rw [w3, if_pos (show nI 0 = (0 : Int32) from rfl)]
    refine ⟨(-1 : Int32), 0, _, rfl, rZ_CLS C, ⟨_, c_X11_undo l 700 (k_pl piM shM h) rfl (k_plI (p := 70) rfl rfl) (k_plI (p := 70) rfl rfl) (k_plI (p := 70) rfl rfl) (k_plA (p := 90) rfl rfl) (k_plA (p := 92) rfl rfl) e2, rfl, rfl, rfl⟩, ?_, ?_⟩
    · exact Rel_im R (C_ap C) (fun p hp => ap_st rfl hp h) rfl rfl rfl rfl rfl rfl rfl rfl R.2.2.2.1 hst (And.left (WI_keep R (k_ap_rf _ h) (ap_ge (by exact rfl)) rfl rfl rfl rfl rfl rfl rfl)) (And.right (WI_keep R (k_ap_rf _ h) (ap_ge (by exact rfl)) rfl rfl rfl rfl rfl rfl rfl))
    · rw [k_ap_sh]; omega
  | succ W =>
    rw [hW] at w1 w2 w3 w4
    have eW : nI (W + 1) - (1 : Int32) = nI W := z_sub (b := 1) (by omega)
    have hc := c_X10_undo l h (w := nI (W + 1)) (j := W) (oX_C C) C.2.1.1 C.2.1.2.1 C.2.1.2.2.1 w2 (show (0 : Int32) < nI (W + 1) from nI_lt (a := 0) (by omega) (by omega)) (by rw [eW]; exact nI_pos (by omega)) (by rw [eW]; exact nI_lt (b := 16) (by omega) (by omega)) (by rw [eW]; exact z_cl (by omega)) (by omega)
    rw [eW] at hc
    refine ⟨0, 0, _, by omega, by omega, hc, ?_⟩
    rintro v h1 ⟨rfl, hh⟩
    obtain ⟨q, g1, g2, g3, g4⟩ := w4 W (by omega)
    have q103 := rZ_103 C (Or.inl rfl) g1
    have Ca : rZ_C (k_sI 35 1 (nI W) h) := C_sI C
    have C1 : rZ_C h1 := by rw [hh]; exact C_sI (C_load Ca)
    have E1 : ∀ x, x ≠ 0 → x ≠ 35 → (x < 26 ∨ 26 + 4 < x) → Kp h h1 x := fun x x0 x35 xr => by
      rw [hh]
      exact Kp_t (Kp_sI x35) (Kp_t (k_load_out xr) (Kp_sI x0))
    have er : h1.2.2.2 = h.2.2.2 := by rw [hh]; show (k_load 36 W 26 (k_sI 35 1 (nI W) h)).2.2.2 = _; rw [load_R]; rfl
    have es : h1.1 = h.1 := by rw [hh]; show (k_load 36 W 26 (k_sI 35 1 (nI W) h)).1 = _; rw [k_load_sh]; rfl
    have z26 : rZ_M h1 26 (rS_Pa S W) := by
      rw [hh]
      refine rZ_Mx (h := k_load 36 W 26 (k_sI 35 1 (nI W) h)) (fun x x1 x2 => Kp_sI (by omega)) ?_
      unfold k_load
      rw [show (k_sI 35 1 (nI W) h).2.2.2 36 W = some q from g1]
      exact cp_M (rZ_Mx (fun x x1 x2 => Kp_sI (by omega)) g2)
    have x14 : h1.2.1 0 14 = 0 := by rw [hh]; exact k_sI_self
    have x35 : h1.2.1 35 1 = nI W ∧ h1.2.1 35 5 = h.2.1 35 5 := by
      rw [hh, k_sI_ne (Or.inl (by decide)), k_sI_ne (Or.inl (by decide)), (k_load_out (Or.inr (by decide))).1]
      exact ⟨k_sI_self, k_sI_ne (Or.inr (by decide))⟩
    have e70 := (E1 70 (by omega) (by omega) (by omega)).1
    obtain ⟨g, e2, hg⟩ := m_undo1 (u := 700) (by omega) (show W < 16 by omega) (h.2.1 70 0) (h.2.1 70 43) (h.2.1 90) (h.2.1 92)
    have e3 : f_X11_undo 700 (h1.2.1 70 0) (h1.2.1 70 42) (h1.2.1 70 43) (h1.2.1 90) (h1.2.1 92) = some (nI W, (0 : Int32), nI W, (0 : Int32), g) := by
      rw [e70, w3, (E1 90 (by omega) (by omega) (by omega)).1, (E1 92 (by omega) (by omega) (by omega)).1]
      exact e2
    refine ⟨nI W, 0, _, rfl, rZ_CLS C1, ⟨_, c_X11_undo l 700 (k_pl piM shM h1) rfl (k_plI (p := 70) rfl rfl) (k_plI (p := 70) rfl rfl) (k_plI (p := 70) rfl rfl) (k_plA (p := 90) rfl rfl) (k_plA (p := 92) rfl rfl) e3, rfl, rfl, rfl⟩, ?_, ?_⟩
    · have K103 : ∀ (us : List k_U), us.all (fun u => decide (u.1 < 103)) = true → ∀ x, 103 ≤ x → Kp h (k_ap us h1) x := fun us hu x hx => Kp_t (E1 x (by omega) (by omega) (by omega)) (ap_ge hu x hx)
      have KI : ∀ (us : List k_U), us.all (fun u => !pcI u.1) = true → ∀ p, pcI p = true → Kp h (k_ap us h1) p := fun us hu p hp => Kp_t (E1 p (fun e => by rw [e] at hp; cases hp) (fun e => by rw [e] at hp; cases hp) (by
        by_cases y : p < 26
        · exact Or.inl y
        · by_cases y2 : 26 + 4 < p
          · exact Or.inr y2
          · exfalso
            rcases (show p = 26 ∨ p = 27 ∨ p = 28 ∨ p = 29 ∨ p = 30 by omega) with rfl | rfl | rfl | rfl | rfl <;> cases hp)) (ap_st hu hp h1)
      refine Rel_im (M := rS_Pa S W) (W := W) (I := rS_I S) (pa := rS_Pa S) (iw := rS_IW S) (im := rS_IM S) (ip := rS_IP S) R (C_ap C1) (KI _ rfl) (congrFun e70 25) (congrFun e70 26) (congrFun e70 27) (congrFun e70 28) (congrFun e70 30) (congrFun e70 54) (congrFun e70 2) (congrFun e70 8) ⟨g4, z26, mMine_c g3 hg⟩ x14 ⟨by omega, x35.1, rfl, fun j hj => ?_⟩ ⟨i1, x35.2.trans i2, (congrFun e70 65).trans i3, fun i hi => ?_⟩
      · obtain ⟨q, k1, k2, k3, k4⟩ := w4 j (by omega)
        have q103 := rZ_103 C (Or.inl rfl) k1
        exact ⟨q, by rw [k_ap_rf, er]; exact k1, rZ_Mx (fun x x1 x2 => K103 _ rfl x (by omega)) k2, by
          show mMine _ (fun k => h1.2.1 92 (77 * j + k))
          rw [(E1 92 (by omega) (by omega) (by omega)).1]; exact k3, k4⟩
      · have e101 := (E1 101 (by omega) (by omega) (by omega)).1
        have e39 := (E1 39 (by omega) (by omega) (by omega)).1
        obtain ⟨k1, k2, k3, k4, ⟨q, k5, k6, k7⟩, k8⟩ := i4 i hi
        have q103 := rZ_103 C (Or.inr (Or.inl rfl)) k5
        refine ⟨k1, (congrFun e39 i).trans k2, (congrFun e101 _).trans k3, k4, ⟨q, by rw [k_ap_rf, er]; exact k5, rZ_Mx (fun x x1 x2 => K103 _ rfl x (by omega)) k6, by
          show mMine _ (fun k => h1.2.1 101 (1310 * i + k))
          rw [e101]; exact k7⟩, fun j hj => ?_⟩
        obtain ⟨q, l1, l2, l3, l4⟩ := k8 j hj
        have q103 := rZ_103 C (Or.inr (Or.inr rfl)) l1
        exact ⟨q, by rw [k_ap_rf, er]; exact l1, rZ_Mx (fun x x1 x2 => K103 _ rfl x (by omega)) l2, by
          show mMine _ (fun k => h1.2.1 101 (1310 * i + 77 + 77 * j + k))
          rw [e101]; exact l3, l4⟩
    · rw [k_ap_sh, es]; omega

theorem pcI_n {x : Nat} (h : pcI x = true) : x < 103 ∧ x ≠ 0 ∧ x ≠ 35 ∧ x ≠ 39 ∧ (x < 26 ∨ 26 + 4 < x) := by
  refine ⟨?_, fun e => (by rw [e] at h; cases h), fun e => (by rw [e] at h; cases h), fun e => (by rw [e] at h; cases h), ?_⟩
  · unfold pcI at h
    cases hb : Nat.blt x 103 with
    | true => exact Nat.le_of_ble_eq_true hb
    | false =>
      rw [hb, Bool.false_and] at h
      cases h
  · by_cases y : x < 26
    · exact Or.inl y
    · by_cases y2 : 26 + 4 < x
      · exact Or.inr y2
      · exfalso
        rcases (show x = 26 ∨ x = 27 ∨ x = 28 ∨ x = 29 ∨ x = 30 by omega) with rfl | rfl | rfl | rfl | rfl <;> cases h
def st26 (p : Nat) : Bool := Nat.ble 26 p && Nat.ble p 30
theorem st26_i {x : Nat} (h1 : 26 ≤ x) (h2 : x ≤ 26 + 4) : st26 x = true := by
  rcases (show x = 26 ∨ x = 27 ∨ x = 28 ∨ x = 29 ∨ x = 30 by omega) with rfl | rfl | rfl | rfl | rfl <;> rfl
set_option maxRecDepth 40000 in
theorem Q_34 {l : Launch} (hlen : h.1.length + 85 ≤ 1000000) (R : Rel S h) (a1 a2 a3 a4 a5 : Int32) : q_34 l h a1 a2 a3 a4 a5 (nxt h) := by
  have C := R.1
  have hN := R.2.2.2.1
  obtain ⟨w1, w2, w3, w4⟩ := R.2.2.2.2.2.2.2.1
  obtain ⟨i1, i2, i3, i4⟩ := R.2.2.2.2.2.2.2.2
  have hst := R.2.2.2.2.2.2.1.2.2
  by_cases hI : rS_I S = 3
  · rw [hI] at i2 i3
    refine ⟨85, 714, _, by omega, by omega, c_X10_image3 l h (oX_C C) C.2.1 i2, ?_⟩
    rintro v h1 ⟨rfl, hh⟩
    have hh2 : h = h1 := hh.symm
    subst hh2
    have e2 : f_X11_image 700 (h.2.1 70 0) (h.2.1 70 42) (h.2.1 70 65) (h.2.1 90) (h.2.1 92) (h.2.1 101) = some ((-1 : Int32), (0 : Int32), h.2.1 70 42, h.2.1 70 65, h.2.1 90, h.2.1 92, h.2.1 101) := by
      unfold f_X11_image bX11_image_0
      rw [i3, if_pos (show nI 3 = (3 : Int32) from rfl)]
    refine ⟨(-1 : Int32), 0, _, rfl, rZ_CLS C, ⟨_, c_X11_image l 700 (k_pl piM shM h) rfl (k_plI (p := 70) rfl rfl) (k_plI (p := 70) rfl rfl) (k_plI (p := 70) rfl rfl) (k_plA (p := 90) rfl rfl) (k_plA (p := 92) rfl rfl) (k_plA (p := 101) rfl rfl) e2, rfl, rfl, rfl⟩, ?_, ?_⟩
    · exact Rel_im R (C_ap C) (fun p hp => ap_st rfl hp h) rfl rfl rfl rfl rfl rfl rfl rfl hN hst (And.left (WI_keep R (k_ap_rf _ h) (ap_ge (by exact rfl)) rfl rfl rfl rfl rfl rfl rfl)) (And.right (WI_keep R (k_ap_rf _ h) (ap_ge (by exact rfl)) rfl rfl rfl rfl rfl rfl rfl))
    · rw [k_ap_sh]; omega
  · have hm : rS_I S < 3 := by omega
    have hl := len_C C
    refine ⟨85, 714, _, by omega, by omega, c_X10_image l h (oX_C C) C.2.1 hm w1 w2 i2 (fun j hj => by obtain ⟨q, e, -⟩ := w4 j hj; exact ⟨q, e⟩) hlen, ?_⟩
    rintro v h1 ⟨rfl, hh⟩
    have p37 : (37 : Nat) = 36 ∨ (37 : Nat) = 37 ∨ (37 : Nat) = 38 := by omega
    have C0 : rZ_C (k_save 37 (rS_I S) 26 h) := sv_C C p37
    have zM : KM (k_save 37 (rS_I S) 26 h) 37 (rS_I S) (rS_M S) := sv_new C.2.1 p37 (by omega) hN.2.1
    have sO : ∀ p j m', (p = 36 ∨ p = 37 ∨ p = 38) → (p ≠ 37 ∨ j ≠ rS_I S) → KM h p j m' → KM (k_save 37 (rS_I S) 26 h) p j m' := fun p j m' hp hne z => sv_old C.2.1 p37 hp hne z
    obtain ⟨g1, g2, g3, g4, g5⟩ := tIs_ok hm w1 (f := rS_Pa S) (rS_W S) 0 (k_save 37 (rS_I S) 26 h) C0 (by omega) (fun j hj => sO 36 j _ (by omega) (by omega) (W_KM R hj))
    have hlen0 := (k_save_len 37 (rS_I S) 26 h).1
    generalize hH : k_tIs (rS_I S) (rS_W S) 0 (k_save 37 (rS_I S) 26 h) = HH at g1 g2 g3 g4 g5
    have hh3 : h1 = k_sI 35 5 (nI (rS_I S + 1)) (k_sA 39 (upd (HH.2.1 39) (rS_I S) (nI (rS_W S))) HH) := by rw [hh]; unfold k_tI; rw [hH]
    have C1 : rZ_C h1 := by rw [hh3]; exact C_sI (C_sA g1)
    have E0 : ∀ x, x < 103 → Kp h HH x := fun x hx => Kp_t (sv_26 C p37 hx) (g2 x hx)
    have EX : ∀ x, x ≠ 35 → x ≠ 39 → Kp HH h1 x := fun x x1 x2 => by rw [hh3]; exact Kp_t (Kp_sA x2) (Kp_sI x1)
    have E1 : ∀ x, x < 103 → x ≠ 35 → x ≠ 39 → Kp h h1 x := fun x hx x1 x2 => Kp_t (E0 x hx) (EX x x1 x2)
    have er : h1.2.2.2 = HH.2.2.2 := by rw [hh3]; rfl
    have es : h1.1 = HH.1 := by rw [hh3]; rfl
    have k1_ : ∀ p j m', (p = 36 ∨ p = 37 ∨ p = 38) → KM HH p j m' → KM h1 p j m' := fun p j m' hp z => KM_c g1 hp er (fun x hx => EX x (by omega) (by omega)) z
    have x351 : h1.2.1 35 1 = nI (rS_W S) := by
      rw [hh3, k_sI_ne (Or.inr (by decide)), (Kp_sA (x := 35) (by decide)).1, (E0 35 (by omega)).1]
      exact w2
    have x355 : h1.2.1 35 5 = nI (rS_I S + 1) := by rw [hh3]; exact k_sI_self
    have x39 : h1.2.1 39 = upd (h.2.1 39) (rS_I S) (nI (rS_W S)) := by
      rw [hh3, (Kp_sI (x := 39) (by decide)).1, ← (E0 39 (by omega)).1]
      exact (show (if (39 : Nat) = 39 then upd (HH.2.1 39) (rS_I S) (nI (rS_W S)) else HH.2.1 39) = _ from if_pos rfl)
    have e70 := (E1 70 (by omega) (by omega) (by omega)).1
    have e90 := (E1 90 (by omega) (by omega) (by omega)).1
    have e92 := (E1 92 (by omega) (by omega) (by omega)).1
    have e101 := (E1 101 (by omega) (by omega) (by omega)).1
    obtain ⟨g, f1, f2, f3, f4, f5⟩ := m_keep (u := 1400) (by omega) hm (h.2.1 70 42) (h.2.1 90) (h.2.1 92) (h.2.1 101)
    have e3 : f_X11_image 1400 (h1.2.1 70 0) (h1.2.1 70 42) (h1.2.1 70 65) (h1.2.1 90) (h1.2.1 92) (h1.2.1 101) = some (nI (rS_I S + 1), (0 : Int32), h.2.1 70 42, nI (rS_I S + 1), h.2.1 90, h.2.1 92, g) := by
      rw [e70, e90, e92, e101, i3]
      unfold f_X11_image bX11_image_0
      rw [if_neg (show ¬ nI (rS_I S) = (3 : Int32) from fun e => hI ((nI_eq (b := 3) (by omega) (by omega)).mp e)), f1, z_b, show nI (rS_I S) + (1 : Int32) = nI (rS_I S + 1) from nI_1 _]
    refine ⟨nI (rS_I S + 1), 0, _, rfl, rZ_CLS C1, ⟨_, c_X11_image l 1400 (k_pl piM shM h1) rfl (k_plI (p := 70) rfl rfl) (k_plI (p := 70) rfl rfl) (k_plI (p := 70) rfl rfl) (k_plA (p := 90) rfl rfl) (k_plA (p := 92) rfl rfl) (k_plA (p := 101) rfl rfl) e3, rfl, rfl, rfl⟩, ?_, ?_⟩
    · refine Rel_im (M := rS_M S) (W := rS_W S) (I := rS_I S + 1) (pa := rS_Pa S) (iw := pickI (rS_I S) (rS_W S) (rS_IW S)) (im := pickI (rS_I S) (rS_M S) (rS_IM S)) (ip := pickI (rS_I S) (rS_Pa S) (rS_IP S)) R (C_ap C1) (fun p hp => Kp_t (E1 p (pcI_n hp).1 (pcI_n hp).2.2.1 (pcI_n hp).2.2.2.1) (ap_st rfl hp h1)) (congrFun e70 25) (congrFun e70 26) (congrFun e70 27) (congrFun e70 28) (congrFun e70 30) (congrFun e70 54) (congrFun e70 2) (congrFun e70 8) ⟨hN.1, rZ_Mx (fun x x1 x2 => Kp_t (E1 x (by omega) (by omega) (by omega)) (ap_st (st := st26) rfl (st26_i x1 x2) h1)) hN.2.1, hN.2.2⟩ ((congrFun (E1 0 (by omega) (by omega) (by omega)).1 14).trans (hst.trans (congrFun e70 43).symm)) ⟨w1, x351, w3, fun j hj => ?_⟩ ⟨by omega, x355, rfl, fun i hi => ?_⟩
      · obtain ⟨q', l3, l4, l5, l6⟩ := w4 j hj
        exact KM_fin C1 (by omega) (k1_ 36 j _ (by omega) (g4 36 j _ (by omega) (fun e => absurd e (by decide)) (sO 36 j _ (by omega) (by omega) (W_KM R hj)))) ⟨l5, l6⟩ (by exact rfl)
      · by_cases y : i = rS_I S
        · subst y
          rw [pick_eq, pick_eq, pick_eq]
          refine ⟨w1, ?_, f4.trans w3, hN.1, ?_, fun j hj => ?_⟩
          · show h1.2.1 39 _ = _
            rw [x39]
            simp only [z_upd]
            rw [if_pos trivial]
          · exact KM_fin C1 p37 (k1_ 37 _ _ p37 (g4 37 _ _ p37 (fun e => absurd e (by decide)) zM)) (mMine_c hN.2.2 (fun k hk => f2 k hk)) (by exact rfl)
          · obtain ⟨q', l3, l4, l5, l6⟩ := w4 j hj
            refine KM_fin C1 (by omega) (k1_ 38 _ _ (by omega) (g5 j (by omega) hj)) ⟨mMine_c l5 (fun k hk => ?_), l6⟩ (by exact rfl)
            have := f3 (77 * j + k) (by omega)
            rw [← Nat.add_assoc] at this
            exact this
        · have hi' : i < rS_I S := by omega
          rw [pick_ne _ _ y, pick_ne _ _ y, pick_ne _ _ y]
          obtain ⟨k1, k2, k3, k4, ⟨q0, k5, k6, k7⟩, k8⟩ := i4 i hi'
          refine ⟨k1, ?_, (f5 _ (by omega)).trans k3, k4, ?_, fun j hj => ?_⟩
          · show h1.2.1 39 _ = _
            rw [x39]
            simp only [z_upd]
            rw [if_neg y]; exact k2
          · exact KM_fin C1 p37 (k1_ 37 _ _ p37 (g4 37 _ _ p37 (fun e => absurd e (by decide)) (sO 37 i _ p37 (Or.inr y) ⟨q0, k5, k6⟩))) (mMine_c k7 (fun k hk => f5 _ (by omega))) (by exact rfl)
          · obtain ⟨q0, l3, l4, l5, l6⟩ := k8 j hj
            exact KM_fin C1 (by omega) (k1_ 38 _ _ (by omega) (g4 38 (16 * i + j) _ (by omega) (fun _ j' h1 h2 => by omega) (sO 38 _ _ (by omega) (by omega) ⟨q0, l3, l4⟩))) ⟨mMine_c l5 (fun k hk => f5 _ (by omega)), l6⟩ (by exact rfl)
    · rw [k_ap_sh, es]; omega
set_option maxRecDepth 40000 in
theorem Q_35 {l : Launch} (hlen : h.1.length + 85 ≤ 1000000) (R : Rel S h) (a1 a2 a3 a4 a5 : Int32) : q_35 l h a1 a2 a3 a4 a5 (nxt h) := by
  have C := R.1
  have hN := R.2.2.2.1
  have hW := R.2.2.2.2.2.2.2.1
  obtain ⟨i1, i2, i3, i4⟩ := R.2.2.2.2.2.2.2.2
  have hst := R.2.2.2.2.2.2.1.2.2
  cases hI : rS_I S with
  | zero =>
    rw [hI] at i2 i3
    refine ⟨80, 672, _, by omega, by omega, c_X10_restore0 l h (oX_C C) C.2.1 i2, ?_⟩
    rintro v h1 ⟨rfl, hh⟩
    have hh2 : h = h1 := hh.symm
    subst hh2
    have e2 : f_X11_restore 700 (h.2.1 70 0) (h.2.1 70 42) (h.2.1 70 43) (h.2.1 70 65) (h.2.1 90) (h.2.1 92) (h.2.1 101) = some ((-1 : Int32), (0 : Int32), h.2.1 70 42, h.2.1 70 43, h.2.1 70 65, h.2.1 90, h.2.1 92, h.2.1 101) := by
      unfold f_X11_restore bX11_restore_0
      rw [i3, if_pos (show nI 0 = (0 : Int32) from rfl)]
    refine ⟨(-1 : Int32), 0, _, rfl, rZ_CLS C, ⟨_, c_X11_restore l 700 (k_pl piM shM h) rfl (k_plI (p := 70) rfl rfl) (k_plI (p := 70) rfl rfl) (k_plI (p := 70) rfl rfl) (k_plI (p := 70) rfl rfl) (k_plA (p := 90) rfl rfl) (k_plA (p := 92) rfl rfl) (k_plA (p := 101) rfl rfl) e2, rfl, rfl, rfl⟩, ?_, ?_⟩
    · exact Rel_im R (C_ap C) (fun p hp => ap_st rfl hp h) rfl rfl rfl rfl rfl rfl rfl rfl hN hst (And.left (WI_keep R (k_ap_rf _ h) (ap_ge (by exact rfl)) rfl rfl rfl rfl rfl rfl rfl)) (And.right (WI_keep R (k_ap_rf _ h) (ap_ge (by exact rfl)) rfl rfl rfl rfl rfl rfl rfl))
    · rw [k_ap_sh]; omega
  | succ m =>
    rw [hI] at i1 i2 i3 i4
    have hm : m < 3 := by omega
    have hl := len_C C
    obtain ⟨b1, b2, b3, b4, ⟨q0, b5, b6, b7⟩, b8⟩ := i4 m (by omega)
    refine ⟨80, 672, _, by omega, by omega, c_X10_restore l h (oX_C C) C.2.1 hm b1 i2 b2 (fun j hj => by obtain ⟨q, e, -⟩ := b8 j hj; exact ⟨q, e⟩) (by omega), ?_⟩
    rintro v h1 ⟨rfl, hh⟩
    have p37 : (37 : Nat) = 36 ∨ (37 : Nat) = 37 ∨ (37 : Nat) = 38 := by omega
    have q103 := rZ_103 C p37 b5
    have Ca : rZ_C (k_sI 35 5 (nI m) h) := C_sI C
    have Cb : rZ_C (k_load 37 m 26 (k_sI 35 5 (nI m) h)) := C_load Ca
    have Cc : rZ_C (k_sI 35 1 (nI (rS_IW S m)) (k_load 37 m 26 (k_sI 35 5 (nI m) h))) := C_sI Cb
    have zb : rZ_M (k_load 37 m 26 (k_sI 35 5 (nI m) h)) 26 (rS_IM S m) := by
      unfold k_load
      rw [show (k_sI 35 5 (nI m) h).2.2.2 37 m = some q0 from b5]
      exact cp_M (rZ_Mx (fun x x1 x2 => Kp_sI (by omega)) b6)
    have Ec : ∀ x, x ≠ 35 → (x < 26 ∨ 26 + 4 < x) → Kp h (k_sI 35 1 (nI (rS_IW S m)) (k_load 37 m 26 (k_sI 35 5 (nI m) h))) x := fun x x1 x2 => Kp_t (Kp_sI x1) (Kp_t (k_load_out x2) (Kp_sI x1))
    have rc : (k_sI 35 1 (nI (rS_IW S m)) (k_load 37 m 26 (k_sI 35 5 (nI m) h))).2.2.2 = h.2.2.2 := by show (k_load 37 m 26 (k_sI 35 5 (nI m) h)).2.2.2 = _; rw [load_R]; rfl
    have sc : (k_sI 35 1 (nI (rS_IW S m)) (k_load 37 m 26 (k_sI 35 5 (nI m) h))).1 = h.1 := by show (k_load 37 m 26 (k_sI 35 5 (nI m) h)).1 = _; rw [k_load_sh]; rfl
    have zc : rZ_M (k_sI 35 1 (nI (rS_IW S m)) (k_load 37 m 26 (k_sI 35 5 (nI m) h))) 26 (rS_IM S m) := rZ_Mx (fun x x1 x2 => Kp_sI (by omega)) zb
    have c351 : (k_sI 35 1 (nI (rS_IW S m)) (k_load 37 m 26 (k_sI 35 5 (nI m) h))).2.1 35 1 = nI (rS_IW S m) := k_sI_self
    have c355 : (k_sI 35 1 (nI (rS_IW S m)) (k_load 37 m 26 (k_sI 35 5 (nI m) h))).2.1 35 5 = nI m := by
      rw [k_sI_ne (Or.inr (by decide)), (k_load_out (Or.inr (by decide))).1]
      exact k_sI_self
    have kc : ∀ p j m', (p = 36 ∨ p = 37 ∨ p = 38) → KM h p j m' → KM (k_sI 35 1 (nI (rS_IW S m)) (k_load 37 m 26 (k_sI 35 5 (nI m) h))) p j m' := fun p j m' hp z => KM_c C hp rc (fun x hx => Ec x (by omega) (by omega)) z
    obtain ⟨g1, g2, g3, g4, g5⟩ := bBs_ok hm b1 (f := rS_IP S m) (rS_IW S m) 0 _ Cc (by omega) (fun j hj => by
      obtain ⟨q, l1, l2, -⟩ := b8 j hj
      exact kc 38 _ _ (by omega) ⟨q, l1, l2⟩)
    rw [sc] at g3
    generalize hH : k_bBs m (rS_IW S m) 0 (k_sI 35 1 (nI (rS_IW S m)) (k_load 37 m 26 (k_sI 35 5 (nI m) h))) = HH at g1 g2 g3 g4 g5
    have hh3 : h1 = k_sI 0 14 0 HH := by rw [hh]; unfold k_bB; rw [hH]
    have C1 : rZ_C h1 := by rw [hh3]; exact C_sI g1
    have EX : ∀ x, x ≠ 0 → Kp HH h1 x := fun x x1 => by rw [hh3]; exact Kp_sI x1
    have E1 : ∀ x, x < 103 → x ≠ 0 → x ≠ 35 → (x < 26 ∨ 26 + 4 < x) → Kp h h1 x := fun x hx x0 x1 x2 => Kp_t (Ec x x1 x2) (Kp_t (g2 x hx) (EX x x0))
    have er : h1.2.2.2 = HH.2.2.2 := by rw [hh3]; rfl
    have es : h1.1 = HH.1 := by rw [hh3]; rfl
    have k1_ : ∀ p j m', (p = 36 ∨ p = 37 ∨ p = 38) → KM HH p j m' → KM h1 p j m' := fun p j m' hp z => KM_c g1 hp er (fun x hx => EX x (by omega)) z
    have x351 : h1.2.1 35 1 = nI (rS_IW S m) := by rw [(EX 35 (by omega)).1, (g2 35 (by omega)).1]; exact c351
    have x355 : h1.2.1 35 5 = nI m := by rw [(EX 35 (by omega)).1, (g2 35 (by omega)).1]; exact c355
    have x14 : h1.2.1 0 14 = 0 := by rw [hh3]; exact k_sI_self
    have z26 : rZ_M h1 26 (rS_IM S m) := rZ_Mx (fun x x1 x2 => Kp_t (g2 x (by omega)) (EX x (by omega))) zc
    have e70 := (E1 70 (by omega) (by omega) (by omega) (by omega)).1
    have e39 := (E1 39 (by omega) (by omega) (by omega) (by omega)).1
    have e90 := (E1 90 (by omega) (by omega) (by omega) (by omega)).1
    have e92 := (E1 92 (by omega) (by omega) (by omega) (by omega)).1
    have e101 := (E1 101 (by omega) (by omega) (by omega) (by omega)).1
    obtain ⟨f20, f22, f1, f2, f3⟩ := m_bring (u := 1400) (by omega) hm (h.2.1 70 42) (h.2.1 90) (h.2.1 92) (h.2.1 101)
    have e3 : f_X11_restore 1400 (h1.2.1 70 0) (h1.2.1 70 42) (h1.2.1 70 43) (h1.2.1 70 65) (h1.2.1 90) (h1.2.1 92) (h1.2.1 101) = some (nI m, (0 : Int32), h.2.1 101 (1310 * m + 1309), (0 : Int32), nI m, f20, f22, h.2.1 101) := by
      rw [e70, e90, e92, e101, i3]
      unfold f_X11_restore bX11_restore_0
      rw [if_neg (show ¬ nI (m + 1) = (0 : Int32) from fun e => by have := (nI_eq (b := 0) (by omega) (by omega)).mp e; omega), show nI (m + 1) - (1 : Int32) = nI m from z_sub (b := 1) (by omega), f1, z_b]
    refine ⟨nI m, 0, _, rfl, rZ_CLS C1, ⟨_, c_X11_restore l 1400 (k_pl piM shM h1) rfl (k_plI (p := 70) rfl rfl) (k_plI (p := 70) rfl rfl) (k_plI (p := 70) rfl rfl) (k_plI (p := 70) rfl rfl) (k_plA (p := 90) rfl rfl) (k_plA (p := 92) rfl rfl) (k_plA (p := 101) rfl rfl) e3, rfl, rfl, rfl⟩, ?_, ?_⟩
    · refine Rel_im (M := rS_IM S m) (W := rS_IW S m) (I := m) (pa := rS_IP S m) (iw := rS_IW S) (im := rS_IM S) (ip := rS_IP S) R (C_ap C1) (fun p hp => Kp_t (E1 p (pcI_n hp).1 (pcI_n hp).2.1 (pcI_n hp).2.2.1 (pcI_n hp).2.2.2.2) (ap_st rfl hp h1)) (congrFun e70 25) (congrFun e70 26) (congrFun e70 27) (congrFun e70 28) (congrFun e70 30) (congrFun e70 54) (congrFun e70 2) (congrFun e70 8) ⟨b4, rZ_Mx (fun x x1 x2 => ap_st (st := st26) rfl (st26_i x1 x2) h1) z26, mMine_c b7 (fun j hj => f2 j hj)⟩ x14 ⟨b1, x351, b3, fun j hj => ?_⟩ ⟨by omega, x355, rfl, fun i hi => ?_⟩
      · obtain ⟨q', l3, l4, l5, l6⟩ := b8 j hj
        refine KM_fin C1 (by omega) (k1_ 36 j _ (by omega) (g5 j (by omega) hj)) ⟨mMine_c l5 (fun k hk => ?_), l6⟩ (by exact rfl)
        have := f3 (77 * j + k) (by omega)
        rw [← Nat.add_assoc] at this
        exact this
      · obtain ⟨k1, k2, k3, k4, ⟨q1, k5, k6, k7⟩, k8⟩ := i4 i (by omega)
        refine ⟨k1, (congrFun e39 i).trans k2, k3, k4, ?_, fun j hj => ?_⟩
        · exact KM_fin C1 p37 (k1_ 37 _ _ p37 (g4 37 _ _ p37 (fun e => absurd e (by decide)) (kc 37 i _ p37 ⟨q1, k5, k6⟩))) k7 (by exact rfl)
        · obtain ⟨q1, l3, l4, l5, l6⟩ := k8 j hj
          exact KM_fin C1 (by omega) (k1_ 38 _ _ (by omega) (g4 38 _ _ (by omega) (fun e => absurd e (by decide)) (kc 38 _ _ (by omega) ⟨q1, l3, l4⟩))) ⟨l5, l6⟩ (by exact rfl)
    · rw [k_ap_sh, es]; omega
end UIR
