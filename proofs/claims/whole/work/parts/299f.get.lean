/-! reading a component of a changed picture, by its place in the list -/
theorem k_gS {us : List k_U} {h0 : k_H} {p : Nat} {s : k_Sh} (hs : h0.1[p]? = some s) : (k_ap us h0).1[p]? = some s := by rw [k_ap_sh]; exact hs
theorem k_gtop : ∀ (us : List k_U) (j : Nat) (u : k_U) (h0 : k_H), k_ds (us.map k_ky) = true → us[j]? = some u → ∃ h1, k_ap us h0 = k_a1 u h1
  | [], _, _, _, _, h => by simp at h
  | x :: us, 0, u, h0, hd, h => by
    have e : x = u := by simpa using h
    subst e
    have h1 : ((us.map k_ky).all (fun b => k_ap2 (k_ky x) b) && k_ds (us.map k_ky)) = true := hd
    rw [Bool.and_eq_true] at h1
    exact ⟨k_ap us h0, k_ap_far us x h0 (fun w hw => List.all_eq_true.mp h1.1 (k_ky w) (List.mem_map_of_mem hw))⟩
  | x :: us, j + 1, u, h0, hd, h => by
    have h1 : ((us.map k_ky).all (fun b => k_ap2 (k_ky x) b) && k_ds (us.map k_ky)) = true := hd
    rw [Bool.and_eq_true] at h1
    exact k_gtop us j u (k_a1 x h0) h1.2 (by simpa using h)
theorem k_gI {us : List k_U} {ks : List (Nat × Nat × Nat)} {h0 : k_H} {p k : Nat} {v : Int32} (hds : k_ds ks = true) (hk : us.map k_ky = ks) (j : Nat) (hj : us[j]? = some (p, .inl (k, v))) : (k_ap us h0).2.1 p k = v := by
  subst hk
  obtain ⟨h1, e⟩ := k_gtop us j _ h0 hds hj
  rw [e]
  show k_u h1.2.1 p k v p k = v
  unfold k_u; rw [if_pos rfl, if_pos rfl]
theorem k_gL {us : List k_U} {ks : List (Nat × Nat × Nat)} {h0 : k_H} {p k : Nat} {v : Int64} (hds : k_ds ks = true) (hk : us.map k_ky = ks) (j : Nat) (hj : us[j]? = some (p, .inr (.inl (k, v)))) : (k_ap us h0).2.2.1 p k = v := by
  subst hk
  obtain ⟨h1, e⟩ := k_gtop us j _ h0 hds hj
  rw [e]
  show k_u h1.2.2.1 p k v p k = v
  unfold k_u; rw [if_pos rfl, if_pos rfl]
theorem k_gA {us : List k_U} {ks : List (Nat × Nat × Nat)} {h0 : k_H} {p : Nat} {v : Nat → Int32} (hds : k_ds ks = true) (hk : us.map k_ky = ks) (j : Nat) (hj : us[j]? = some (p, .inr (.inr (.inl v)))) : (k_ap us h0).2.1 p = v := by
  subst hk
  obtain ⟨h1, e⟩ := k_gtop us j _ h0 hds hj
  rw [e]
  exact k_ua_self
theorem k_gB {us : List k_U} {ks : List (Nat × Nat × Nat)} {h0 : k_H} {p : Nat} {v : Nat → Int64} (hds : k_ds ks = true) (hk : us.map k_ky = ks) (j : Nat) (hj : us[j]? = some (p, .inr (.inr (.inr v)))) : (k_ap us h0).2.2.1 p = v := by
  subst hk
  obtain ⟨h1, e⟩ := k_gtop us j _ h0 hds hj
  rw [e]
  exact k_ua_self
def k_nk (ks : List (Nat × Nat × Nat)) (a : Nat × Nat × Nat) : Bool := ks.all (fun b => k_ap2 b a)
theorem k_nkI : ∀ (us : List k_U) (h0 : k_H) (p k : Nat), k_nk (us.map k_ky) (p, 0, k) = true → (k_ap us h0).2.1 p k = h0.2.1 p k
  | [], _, _, _, _ => rfl
  | u :: us, h0, p, k, hn => by
    have h1 : (k_ap2 (k_ky u) (p, 0, k) && (us.map k_ky).all (fun b => k_ap2 b (p, 0, k))) = true := hn
    rw [Bool.and_eq_true] at h1
    show (k_ap us (k_a1 u h0)).2.1 p k = _
    rw [k_nkI us (k_a1 u h0) p k h1.2]
    obtain ⟨q, x⟩ := u
    have h2 := h1.1
    rcases x with ⟨j, v⟩ | ⟨j, v⟩ | g | g <;> simp [k_ky, k_ap2] at h2
    · show k_u h0.2.1 q j v p k = _
      unfold k_u
      by_cases e1 : p = q
      · rw [if_pos e1]
        by_cases e2 : k = j
        · exact absurd e2.symm (h2.resolve_left (fun z => z e1.symm))
        · rw [if_neg e2]
      · rw [if_neg e1]
    · rfl
    · show k_ua h0.2.1 q g p k = _
      unfold k_ua
      rw [if_neg (fun z => h2 z.symm)]
    · rfl
theorem k_nkA : ∀ (us : List k_U) (h0 : k_H) (p : Nat), k_nk (us.map k_ky) (p, 2, 0) = true → (k_ap us h0).2.1 p = h0.2.1 p
  | [], _, _, _ => rfl
  | u :: us, h0, p, hn => by
    have h1 : (k_ap2 (k_ky u) (p, 2, 0) && (us.map k_ky).all (fun b => k_ap2 b (p, 2, 0))) = true := hn
    rw [Bool.and_eq_true] at h1
    show (k_ap us (k_a1 u h0)).2.1 p = _
    rw [k_nkA us (k_a1 u h0) p h1.2]
    obtain ⟨q, x⟩ := u
    have h2 := h1.1
    rcases x with ⟨j, v⟩ | ⟨j, v⟩ | g | g <;> simp [k_ky, k_ap2] at h2
    · exact k_u_ne (fun z => h2 z.symm)
    · rfl
    · exact k_ua_ne (fun z => h2 z.symm)
    · rfl
theorem k_nkL : ∀ (us : List k_U) (h0 : k_H) (p k : Nat), k_nk (us.map k_ky) (p, 1, k) = true → (k_ap us h0).2.2.1 p k = h0.2.2.1 p k
  | [], _, _, _, _ => rfl
  | u :: us, h0, p, k, hn => by
    have h1 : (k_ap2 (k_ky u) (p, 1, k) && (us.map k_ky).all (fun b => k_ap2 b (p, 1, k))) = true := hn
    rw [Bool.and_eq_true] at h1
    show (k_ap us (k_a1 u h0)).2.2.1 p k = _
    rw [k_nkL us (k_a1 u h0) p k h1.2]
    obtain ⟨q, x⟩ := u
    have h2 := h1.1
    rcases x with ⟨j, v⟩ | ⟨j, v⟩ | g | g <;> simp [k_ky, k_ap2] at h2
    · rfl
    · show k_u h0.2.2.1 q j v p k = _
      unfold k_u
      by_cases e1 : p = q
      · rw [if_pos e1]
        by_cases e2 : k = j
        · exact absurd e2.symm (h2.resolve_left (fun z => z e1.symm))
        · rw [if_neg e2]
      · rw [if_neg e1]
    · rfl
    · show k_ua h0.2.2.1 q g p k = _
      unfold k_ua
      rw [if_neg (fun z => h2 z.symm)]
theorem k_gOI {us : List k_U} {ks : List (Nat × Nat × Nat)} {h0 : k_H} {p k : Nat} {c : Int32} (hk : us.map k_ky = ks) (hn : k_nk ks (p, 0, k) = true) (e : h0.2.1 p k = c) : (k_ap us h0).2.1 p k = c := by
  subst hk; rw [k_nkI us h0 p k hn]; exact e
theorem k_gOL {us : List k_U} {ks : List (Nat × Nat × Nat)} {h0 : k_H} {p k : Nat} {c : Int64} (hk : us.map k_ky = ks) (hn : k_nk ks (p, 1, k) = true) (e : h0.2.2.1 p k = c) : (k_ap us h0).2.2.1 p k = c := by
  subst hk; rw [k_nkL us h0 p k hn]; exact e
theorem k_gOA {us : List k_U} {ks : List (Nat × Nat × Nat)} {h0 : k_H} {p : Nat} {c : Nat → Int32} (hk : us.map k_ky = ks) (hn : k_nk ks (p, 2, 0) = true) (e : h0.2.1 p = c) : (k_ap us h0).2.1 p = c := by
  subst hk; rw [k_nkA us h0 p hn]; exact e
theorem k_gH {us : List k_U} {h0 : k_H} {s : List k_Sh} (hs : h0.1 = s) : (k_ap us h0).1 = s := by rw [k_ap_sh]; exact hs
theorem k_ckS {us : List k_U} {h0 : k_H} {pi : List Nat} {shl : List k_Sh} (h : k_ck pi shl h0.1 = true) : k_ck pi shl (k_ap us h0).1 = true := by rw [k_ap_sh]; exact h
theorem k_pl_at {α : Type} {pi : List Nat} {i p : Nat} {f : Nat → α} {z : α} (hp : pi[i]? = some p) : (if i < pi.length then f (pi.getD i 0) else z) = f p := by
  rw [if_pos (List.getElem?_eq_some_iff.mp hp).1, List.getD_eq_getElem?_getD, hp]
  rfl
theorem k_plI {pi : List Nat} {shl : List k_Sh} {h : k_H} {i p k : Nat} {v : Int32} (hp : pi[i]? = some p) (e : h.2.1 p k = v) : (k_pl pi shl h).2.1 i k = v := by
  show (if i < pi.length then h.2.1 (pi.getD i 0) else fun _ => 0) k = v
  rw [k_pl_at hp]; exact e
theorem k_plL {pi : List Nat} {shl : List k_Sh} {h : k_H} {i p k : Nat} {v : Int64} (hp : pi[i]? = some p) (e : h.2.2.1 p k = v) : (k_pl pi shl h).2.2.1 i k = v := by
  show (if i < pi.length then h.2.2.1 (pi.getD i 0) else fun _ => 0) k = v
  rw [k_pl_at hp]; exact e
theorem k_plA {pi : List Nat} {shl : List k_Sh} {h : k_H} {i p : Nat} {v : Nat → Int32} (hp : pi[i]? = some p) (e : h.2.1 p = v) : (k_pl pi shl h).2.1 i = v := by
  show (if i < pi.length then h.2.1 (pi.getD i 0) else fun _ => 0) = v
  rw [k_pl_at hp]; exact e
theorem k_plB {pi : List Nat} {shl : List k_Sh} {h : k_H} {i p : Nat} {v : Nat → Int64} (hp : pi[i]? = some p) (e : h.2.2.1 p = v) : (k_pl pi shl h).2.2.1 i = v := by
  show (if i < pi.length then h.2.2.1 (pi.getD i 0) else fun _ => 0) = v
  rw [k_pl_at hp]; exact e
