/-! updates joined by their places in the list -/
theorem k_ap2_ne (a : Nat × Nat × Nat) : k_ap2 a a = false := by simp [k_ap2]
theorem k_rp_set : ∀ (us : List k_U) (j : Nat) (u w : k_U), k_ds (us.map k_ky) = true → us[j]? = some w → k_ky w = k_ky u → k_rp u us = us.set j u
  | [], _, _, _, _, h, _ => by simp at h
  | x :: us, 0, u, w, _, h, e => by
    have e1 : x = w := by simpa using h
    subst e1
    show (if k_ky x = k_ky u then u :: us else x :: k_rp u us) = _
    rw [if_pos e]; rfl
  | x :: us, j + 1, u, w, hd, h, e => by
    have h1 : ((us.map k_ky).all (fun b => k_ap2 (k_ky x) b) && k_ds (us.map k_ky)) = true := hd
    rw [Bool.and_eq_true] at h1
    have h2 : us[j]? = some w := by simpa using h
    have hne : ¬ k_ky x = k_ky u := by
      intro z
      have h3 := List.all_eq_true.mp h1.1 (k_ky w) (List.mem_map_of_mem (List.mem_of_getElem? h2))
      rw [e, z, k_ap2_ne] at h3
      cases h3
    show (if k_ky x = k_ky u then u :: us else x :: k_rp u us) = _
    rw [if_neg hne, k_rp_set us j u w h1.2 h2 e]
    rfl
def k_sts : List k_U → List Nat → List k_U → List k_U
  | us, j :: js, u :: vs => k_sts (us.set j u) js vs
  | us, _, _ => us
def k_jc (ks : List (Nat × Nat × Nat)) : List (Nat × Nat × Nat) → List Nat → Bool
  | k :: vks, j :: js => decide (ks[j]? = some k) && k_jc ks vks js
  | [], _ => true
  | _ :: _, [] => false
theorem k_jn2a {ks : List (Nat × Nat × Nat)} (hds : k_ds ks = true) {h0 : k_H} : ∀ (vs us : List k_U) (js : List Nat), us.map k_ky = ks → k_jc ks (vs.map k_ky) js = true → k_ap vs (k_ap us h0) = k_ap (k_sts us js vs) h0
  | [], us, js, _, _ => by cases js <;> rfl
  | u :: vs, us, [], _, hj => by cases hj
  | u :: vs, us, j :: js, hk, hj => by
    have hj2 : (decide (ks[j]? = some (k_ky u)) && k_jc ks (vs.map k_ky) js) = true := hj
    rw [Bool.and_eq_true, decide_eq_true_eq] at hj2
    have h1 : (us.map k_ky)[j]? = some (k_ky u) := by rw [hk]; exact hj2.1
    rw [List.getElem?_map] at h1
    cases hw : us[j]? with
    | none => rw [hw] at h1; cases h1
    | some w =>
      rw [hw] at h1
      have e : k_ky w = k_ky u := Option.some.inj h1
      have hset : k_rp u us = us.set j u := k_rp_set us j u w (by rw [hk]; exact hds) hw e
      have hmem : k_ky u ∈ us.map k_ky := by rw [← e]; exact List.mem_map_of_mem (List.mem_of_getElem? hw)
      show k_ap vs (k_a1 u (k_ap us h0)) = k_ap (k_sts (us.set j u) js vs) h0
      rw [k_ap_rp us u h0 (by rw [hk]; exact hds) hmem, hset]
      refine k_jn2a hds vs (us.set j u) js ?_ hj2.2
      rw [List.map_set, hk]
      apply List.ext_getElem?
      intro i
      by_cases hi : j = i
      · subst hi
        rw [List.getElem?_set_self (by rw [← hk, List.length_map]; exact (List.getElem?_eq_some_iff.mp hw).1), hj2.1]
      · rw [List.getElem?_set_ne hi]
theorem k_jn2 {us vs us' : List k_U} {ks vks : List (Nat × Nat × Nat)} {js : List Nat} {h0 : k_H} (hds : k_ds ks = true) (hk : us.map k_ky = ks) (hv : vs.map k_ky = vks) (hj : k_jc ks vks js = true) (hst : k_sts us js vs = us') : k_ap vs (k_ap us h0) = k_ap us' h0 := by
  subst hst; subst hv
  exact k_jn2a hds vs us js hk hj
