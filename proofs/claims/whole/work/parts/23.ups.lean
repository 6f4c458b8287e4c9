/-! UPDATES of the picture, as lists in a fixed order -/
abbrev k_U : Type := Nat × ((Nat × Int32) ⊕ (Nat × Int64) ⊕ (Nat → Int32) ⊕ (Nat → Int64))
def k_a1 (u : k_U) (h : k_H) : k_H := match u with
  | (p, .inl (k, v)) => (h.1, k_u h.2.1 p k v, h.2.2.1, h.2.2.2)
  | (p, .inr (.inl (k, v))) => (h.1, h.2.1, k_u h.2.2.1 p k v, h.2.2.2)
  | (p, .inr (.inr (.inl g))) => (h.1, k_ua h.2.1 p g, h.2.2.1, h.2.2.2)
  | (p, .inr (.inr (.inr g))) => (h.1, h.2.1, k_ua h.2.2.1 p g, h.2.2.2)
def k_ap : List k_U → k_H → k_H
  | [], h => h
  | u :: us, h => k_ap us (k_a1 u h)
/-- a key: place, kind, slot (an array: all of its place) -/
def k_ky (u : k_U) : Nat × Nat × Nat := match u with
  | (p, .inl (k, _)) => (p, 0, k)
  | (p, .inr (.inl (k, _))) => (p, 1, k)
  | (p, .inr (.inr (.inl _))) => (p, 2, 0)
  | (p, .inr (.inr (.inr _))) => (p, 3, 0)
/-- two keys that don't meet -/
def k_ap2 (a b : Nat × Nat × Nat) : Bool := a.1 != b.1 || (a.2.1 == 0 && b.2.1 == 0 && a.2.2 != b.2.2) || (a.2.1 == 1 && b.2.1 == 1 && a.2.2 != b.2.2) || (a.2.1 % 2 != b.2.1 % 2)
def k_rp (u : k_U) : List k_U → List k_U
  | [] => []
  | w :: us => if k_ky w = k_ky u then u :: us else w :: k_rp u us
def k_mg : List k_U → List k_U → List k_U
  | us, [] => us
  | us, u :: vs => k_mg (k_rp u us) vs
/-- the keys of a list are apart; a key is in the list -/
def k_ds : List (Nat × Nat × Nat) → Bool
  | [] => true
  | a :: l => l.all (fun b => k_ap2 a b) && k_ds l
theorem k_uu {α : Type} (f : Nat → Nat → α) (p k : Nat) (v w : α) : k_u (k_u f p k v) p k w = k_u f p k w := by
  funext a b
  simp only [k_u]
  repeat' split
  all_goals first | rfl | (exfalso; omega)
theorem k_uc {α : Type} (f : Nat → Nat → α) {p k q j : Nat} (v w : α) (hne : p ≠ q ∨ k ≠ j) : k_u (k_u f p k v) q j w = k_u (k_u f q j w) p k v := by
  funext a b
  simp only [k_u]
  repeat' split
  all_goals first | rfl | (exfalso; omega)
theorem k_aa {α : Type} (f : Nat → Nat → α) (p : Nat) (v w : Nat → α) : k_ua (k_ua f p v) p w = k_ua f p w := by
  funext a
  unfold k_ua
  by_cases h1 : a = p
  · rw [if_pos h1, if_pos h1]
  · rw [if_neg h1, if_neg h1, if_neg h1]
theorem k_ac {α : Type} (f : Nat → Nat → α) {p q : Nat} (v w : Nat → α) (hne : p ≠ q) : k_ua (k_ua f p v) q w = k_ua (k_ua f q w) p v := by
  funext a
  unfold k_ua
  by_cases h1 : a = q
  · rw [if_pos h1, if_neg (fun z => hne (z.symm.trans h1)), if_pos h1]
  · rw [if_neg h1]
    by_cases h2 : a = p
    · rw [if_pos h2, if_pos h2]
    · rw [if_neg h2, if_neg h2, if_neg h1]
theorem k_uac {α : Type} (f : Nat → Nat → α) {p k q : Nat} (v : α) (w : Nat → α) (hne : p ≠ q) : k_ua (k_u f p k v) q w = k_u (k_ua f q w) p k v := by
  funext a b
  by_cases h1 : a = q
  · have h2 : ¬ a = p := fun z => hne (z.symm.trans h1)
    simp only [k_ua, k_u, if_pos h1, if_neg h2]
  · simp only [k_ua, k_u, if_neg h1]
theorem k_a1_same {u w : k_U} (h : k_H) (hk : k_ky w = k_ky u) : k_a1 u (k_a1 w h) = k_a1 u h := by
  obtain ⟨p, x⟩ := u
  obtain ⟨q, y⟩ := w
  rcases x with ⟨k, v⟩ | ⟨k, v⟩ | g | g <;> rcases y with ⟨j, z⟩ | ⟨j, z⟩ | g2 | g2 <;> simp only [k_ky, Prod.mk.injEq] at hk <;> first | (exfalso; omega) | skip
  · obtain ⟨rfl, -, rfl⟩ := hk
    show ((h.1, k_u (k_u h.2.1 q j z) q j v, h.2.2.1, h.2.2.2) : k_H) = _
    rw [k_uu]; rfl
  · obtain ⟨rfl, -, rfl⟩ := hk
    show ((h.1, h.2.1, k_u (k_u h.2.2.1 q j z) q j v, h.2.2.2) : k_H) = _
    rw [k_uu]; rfl
  · obtain ⟨rfl, -⟩ := hk
    show ((h.1, k_ua (k_ua h.2.1 q g2) q g, h.2.2.1, h.2.2.2) : k_H) = _
    rw [k_aa]; rfl
  · obtain ⟨rfl, -⟩ := hk
    show ((h.1, h.2.1, k_ua (k_ua h.2.2.1 q g2) q g, h.2.2.2) : k_H) = _
    rw [k_aa]; rfl
theorem k_a1_comm {u w : k_U} (h : k_H) (hk : k_ap2 (k_ky w) (k_ky u) = true) : k_a1 u (k_a1 w h) = k_a1 w (k_a1 u h) := by
  obtain ⟨p, x⟩ := u
  obtain ⟨q, y⟩ := w
  rcases x with ⟨k, v⟩ | ⟨k, v⟩ | g | g <;> rcases y with ⟨j, z⟩ | ⟨j, z⟩ | g2 | g2 <;> simp [k_ky, k_ap2] at hk
  · show ((h.1, k_u (k_u h.2.1 q j z) p k v, h.2.2.1, h.2.2.2) : k_H) = (h.1, k_u (k_u h.2.1 p k v) q j z, h.2.2.1, h.2.2.2)
    rw [k_uc _ _ _ hk]
  · rfl
  · show ((h.1, k_u (k_ua h.2.1 q g2) p k v, h.2.2.1, h.2.2.2) : k_H) = (h.1, k_ua (k_u h.2.1 p k v) q g2, h.2.2.1, h.2.2.2)
    rw [k_uac _ _ _ (fun z => hk z.symm)]
  · rfl
  · rfl
  · show ((h.1, h.2.1, k_u (k_u h.2.2.1 q j z) p k v, h.2.2.2) : k_H) = (h.1, h.2.1, k_u (k_u h.2.2.1 p k v) q j z, h.2.2.2)
    rw [k_uc _ _ _ hk]
  · rfl
  · show ((h.1, h.2.1, k_u (k_ua h.2.2.1 q g2) p k v, h.2.2.2) : k_H) = (h.1, h.2.1, k_ua (k_u h.2.2.1 p k v) q g2, h.2.2.2)
    rw [k_uac _ _ _ (fun z => hk z.symm)]
  · show ((h.1, k_ua (k_u h.2.1 q j z) p g, h.2.2.1, h.2.2.2) : k_H) = (h.1, k_u (k_ua h.2.1 p g) q j z, h.2.2.1, h.2.2.2)
    rw [k_uac _ _ _ hk]
  · rfl
  · show ((h.1, k_ua (k_ua h.2.1 q g2) p g, h.2.2.1, h.2.2.2) : k_H) = (h.1, k_ua (k_ua h.2.1 p g) q g2, h.2.2.1, h.2.2.2)
    rw [k_ac _ _ _ hk]
  · rfl
  · rfl
  · show ((h.1, h.2.1, k_ua (k_u h.2.2.1 q j z) p g, h.2.2.2) : k_H) = (h.1, h.2.1, k_u (k_ua h.2.2.1 p g) q j z, h.2.2.2)
    rw [k_uac _ _ _ hk]
  · rfl
  · show ((h.1, h.2.1, k_ua (k_ua h.2.2.1 q g2) p g, h.2.2.2) : k_H) = (h.1, h.2.1, k_ua (k_ua h.2.2.1 p g) q g2, h.2.2.2)
    rw [k_ac _ _ _ hk]
theorem k_ap_far : ∀ (us : List k_U) (u : k_U) (h : k_H), (∀ w ∈ us, k_ap2 (k_ky u) (k_ky w) = true) → k_ap us (k_a1 u h) = k_a1 u (k_ap us h)
  | [], _, _, _ => rfl
  | w :: us, u, h, hf => by
    show k_ap us (k_a1 w (k_a1 u h)) = k_a1 u (k_ap us (k_a1 w h))
    rw [k_a1_comm h (hf w List.mem_cons_self), k_ap_far us u _ (fun z hz => hf z (List.mem_cons_of_mem _ hz))]
theorem k_ap_rp : ∀ (us : List k_U) (u : k_U) (h : k_H), k_ds (us.map k_ky) = true → k_ky u ∈ us.map k_ky → k_a1 u (k_ap us h) = k_ap (k_rp u us) h
  | [], _, _, _, hm => by cases hm
  | w :: us, u, h, hd, hm => by
    have hd' : (us.map k_ky).all (fun b => k_ap2 (k_ky w) b) = true ∧ k_ds (us.map k_ky) = true := by
      have h1 : ((us.map k_ky).all (fun b => k_ap2 (k_ky w) b) && k_ds (us.map k_ky)) = true := hd
      rw [Bool.and_eq_true] at h1
      exact h1
    have hfar : ∀ z ∈ us, k_ap2 (k_ky w) (k_ky z) = true := fun z hz => List.all_eq_true.mp hd'.1 (k_ky z) (List.mem_map_of_mem hz)
    show k_a1 u (k_ap us (k_a1 w h)) = k_ap (if k_ky w = k_ky u then u :: us else w :: k_rp u us) h
    by_cases he : k_ky w = k_ky u
    · rw [if_pos he]
      show _ = k_ap us (k_a1 u h)
      rw [k_ap_far us w h hfar, k_a1_same _ he, k_ap_far us u h (fun z hz => by rw [← he]; exact hfar z hz)]
    · rw [if_neg he]
      show _ = k_ap (k_rp u us) (k_a1 w h)
      refine k_ap_rp us u (k_a1 w h) hd'.2 ?_
      rcases List.mem_cons.mp hm with z | z
      · exact absurd z.symm he
      · exact z
theorem k_rp_ky : ∀ (us : List k_U) (u : k_U), (k_rp u us).map k_ky = us.map k_ky
  | [], _ => rfl
  | w :: us, u => by
    show ((if k_ky w = k_ky u then u :: us else w :: k_rp u us).map k_ky) = k_ky w :: us.map k_ky
    by_cases he : k_ky w = k_ky u
    · rw [if_pos he]
      show k_ky u :: us.map k_ky = _
      rw [he]
    · rw [if_neg he]
      show k_ky w :: (k_rp u us).map k_ky = _
      rw [k_rp_ky us u]
theorem k_ap_mg : ∀ (vs us : List k_U) (h : k_H), k_ds (us.map k_ky) = true → (∀ v ∈ vs, k_ky v ∈ us.map k_ky) → k_ap vs (k_ap us h) = k_ap (k_mg us vs) h
  | [], _, _, _, _ => rfl
  | v :: vs, us, h, hd, hm => by
    show k_ap vs (k_a1 v (k_ap us h)) = k_ap (k_mg (k_rp v us) vs) h
    rw [k_ap_rp us v h hd (hm v List.mem_cons_self)]
    exact k_ap_mg vs (k_rp v us) h (by rw [k_rp_ky]; exact hd) (fun z hz => by rw [k_rp_ky]; exact hm z (List.mem_cons_of_mem _ hz))
/-- every key of the second is one of the first -/
def k_in (us vs : List (Nat × Nat × Nat)) : Bool := vs.all (fun b => us.contains b)
theorem k_in_of {us vs : List k_U} (h : k_in (us.map k_ky) (vs.map k_ky) = true) : ∀ v ∈ vs, k_ky v ∈ us.map k_ky := by
  intro v hv
  have h1 := List.all_eq_true.mp h (k_ky v) (List.mem_map_of_mem hv)
  simpa using h1
theorem k_ap_sh : ∀ (us : List k_U) (h : k_H), (k_ap us h).1 = h.1
  | [], _ => rfl
  | (p, .inl (k, v)) :: us, h => k_ap_sh us (k_a1 (p, .inl (k, v)) h)
  | (p, .inr (.inl (k, v))) :: us, h => k_ap_sh us (k_a1 (p, .inr (.inl (k, v))) h)
  | (p, .inr (.inr (.inl g))) :: us, h => k_ap_sh us (k_a1 (p, .inr (.inr (.inl g))) h)
  | (p, .inr (.inr (.inr g))) :: us, h => k_ap_sh us (k_a1 (p, .inr (.inr (.inr g))) h)
theorem k_ap_rf : ∀ (us : List k_U) (h : k_H), (k_ap us h).2.2.2 = h.2.2.2
  | [], _ => rfl
  | (p, .inl (k, v)) :: us, h => k_ap_rf us (k_a1 (p, .inl (k, v)) h)
  | (p, .inr (.inl (k, v))) :: us, h => k_ap_rf us (k_a1 (p, .inr (.inl (k, v))) h)
  | (p, .inr (.inr (.inl g))) :: us, h => k_ap_rf us (k_a1 (p, .inr (.inr (.inl g))) h)
  | (p, .inr (.inr (.inr g))) :: us, h => k_ap_rf us (k_a1 (p, .inr (.inr (.inr g))) h)
theorem k_wf_ap {us : List k_U} {h : k_H} (hw : k_wf h) : k_wf (k_ap us h) := by
  unfold k_wf
  rw [k_ap_sh, k_ap_rf]
  exact hw
/-! the start: what is there is written over itself -/
theorem k_ap_0 {h : k_H} : k_ap [] h = h := rfl
theorem k_ap_I {h : k_H} {us : List k_U} {p k : Nat} (e : k_ap us h = h) : k_ap ((p, .inl (k, h.2.1 p k)) :: us) h = h := by
  have h1 : k_a1 (p, .inl (k, h.2.1 p k)) h = h := by
    show ((h.1, k_u h.2.1 p k (h.2.1 p k), h.2.2.1, h.2.2.2) : k_H) = h
    have : k_u h.2.1 p k (h.2.1 p k) = h.2.1 := by
      funext a b; unfold k_u
      by_cases h1 : a = p
      · by_cases h2 : b = k
        · rw [if_pos h1, if_pos h2, h1, h2]
        · rw [if_pos h1, if_neg h2]
      · rw [if_neg h1]
    rw [this]
  show k_ap us (k_a1 (p, .inl (k, h.2.1 p k)) h) = h
  rw [h1, e]
theorem k_ap_L {h : k_H} {us : List k_U} {p k : Nat} (e : k_ap us h = h) : k_ap ((p, .inr (.inl (k, h.2.2.1 p k))) :: us) h = h := by
  have h1 : k_a1 (p, .inr (.inl (k, h.2.2.1 p k))) h = h := by
    show ((h.1, h.2.1, k_u h.2.2.1 p k (h.2.2.1 p k), h.2.2.2) : k_H) = h
    have : k_u h.2.2.1 p k (h.2.2.1 p k) = h.2.2.1 := by
      funext a b; unfold k_u
      by_cases h1 : a = p
      · by_cases h2 : b = k
        · rw [if_pos h1, if_pos h2, h1, h2]
        · rw [if_pos h1, if_neg h2]
      · rw [if_neg h1]
    rw [this]
  show k_ap us (k_a1 (p, .inr (.inl (k, h.2.2.1 p k))) h) = h
  rw [h1, e]
theorem k_ap_A {h : k_H} {us : List k_U} {p : Nat} (e : k_ap us h = h) : k_ap ((p, .inr (.inr (.inl (h.2.1 p)))) :: us) h = h := by
  have h1 : k_a1 (p, .inr (.inr (.inl (h.2.1 p)))) h = h := by
    show ((h.1, k_ua h.2.1 p (h.2.1 p), h.2.2.1, h.2.2.2) : k_H) = h
    have : k_ua h.2.1 p (h.2.1 p) = h.2.1 := by
      funext a; unfold k_ua
      by_cases h1 : a = p
      · rw [if_pos h1, h1]
      · rw [if_neg h1]
    rw [this]
  show k_ap us (k_a1 (p, .inr (.inr (.inl (h.2.1 p)))) h) = h
  rw [h1, e]
theorem k_ap_B {h : k_H} {us : List k_U} {p : Nat} (e : k_ap us h = h) : k_ap ((p, .inr (.inr (.inr (h.2.2.1 p)))) :: us) h = h := by
  have h1 : k_a1 (p, .inr (.inr (.inr (h.2.2.1 p)))) h = h := by
    show ((h.1, h.2.1, k_ua h.2.2.1 p (h.2.2.1 p), h.2.2.2) : k_H) = h
    have : k_ua h.2.2.1 p (h.2.2.1 p) = h.2.2.1 := by
      funext a; unfold k_ua
      by_cases h1 : a = p
      · rw [if_pos h1, h1]
      · rw [if_neg h1]
    rw [this]
  show k_ap us (k_a1 (p, .inr (.inr (.inr (h.2.2.1 p)))) h) = h
  rw [h1, e]
