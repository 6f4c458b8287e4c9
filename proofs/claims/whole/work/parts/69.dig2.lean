/-! DIGGING, both -/
def cntB (p : Nat → Bool) (n : Nat) : Nat := nsm (fun k => if p k then 1 else 0) n
theorem cntB_le (p : Nat → Bool) (n : Nat) : cntB p n ≤ n := by
  have := nsm_le (f := fun k => if p k then 1 else 0) (b := 1) (n := n) (fun k _ => by
    show (if p k = true then 1 else 0) ≤ 1
    split <;> omega)
  unfold cntB
  omega
theorem cntB_cong {p q : Nat → Bool} {n : Nat} (h : ∀ k, k < n → p k = q k) : cntB p n = cntB q n := nsm_cong (fun k hk => by show (if p k = true then 1 else 0) = (if q k = true then 1 else 0); rw [h k hk])
theorem lS_cnt {m : Int64} {p : Nat → Bool} (h : lS m p) {u : Nat} : f_J13_bitCount_95d88 u m = some (nI (cntB p 48)) := by
  rw [bitc m]
  refine congrArg (fun t => some (nI t)) ?_
  unfold cntB
  rw [show (64 : Nat) = 48 + 16 from rfl, nsm_split]
  have e : nsm (fun k => if lb m (48 + k) = true then 1 else 0) 16 = nsm (fun _ => 0) 16 := nsm_cong (fun k hk => by
    rw [h (48 + k) (by omega), decide_eq_false (show ¬ 48 + k < 48 by omega)]
    simp)
  have e2 : nsm (fun _ => 0) 16 = 0 := rfl
  rw [e, e2, Nat.add_zero]
  exact nsm_cong (fun k hk => by rw [lS_get h hk])
theorem m_fallNow {u W H sh : Nat} {a7 a8 m13 m14 m15 a21 : Nat → Int32} {S K B : Nat → Nat} {LF : (Nat → Int32) → Int32} (hW : W ≤ 8) (hH : H ≤ 6) (A : sA a21 S) (St : stOK W H S) (E : kbA a7 a8 K B) (hsh : a21 69 = nI sh) (L : lawM 0 m13 m14 m15 LF) (hc' : lcong LF) (hu : 160 ≤ u) (b16 b17 b23 : Nat → Int32) :
    ∃ d16 d17 d23, f_X11_fallNow u (nI W) (nI H) a7 a8 m13 m14 m15 b16 b17 a21 b23 = some (nI (cntB (fl LF S K B sh) 48), d16, d17, d23) ∧ ∀ c, c < 48 → d23 c = zB (fl LF S K B sh c) := by
  have key : ∀ j k, k + j = 48 → ∀ n g16 g17 g23, j < n → (∀ c, c < k → g23 c = zB (fl LF S K B sh c)) → ∃ d16 d17 d23, bX11_fallNow_4 u (nI W) (nI H) a7 a8 m13 m14 m15 a21 n g16 g17 g23 (nI (cntB (fl LF S K B sh) k)) (nI k) = some (nI (cntB (fl LF S K B sh) 48), d16, d17, d23) ∧ ∀ c, c < 48 → d23 c = zB (fl LF S K B sh c) := by
    intro j
    induction j with
    | zero =>
      intro k hk n g16 g17 g23 hn hg
      obtain ⟨n, rfl⟩ := z_suc hn
      have : k = 48 := by omega
      subst this
      exact ⟨g16, g17, g23, by rw [bX11_fallNow_4]; exact if_pos (by decide), hg⟩
    | succ j ih =>
      intro k hk n g16 g17 g23 hn hg
      obtain ⟨n, rfl⟩ := z_suc hn
      rw [bX11_fallNow_4]
      obtain ⟨e16, e17, e⟩ := m_falls hW hH A St E hsh L hc' hu (show k < 48 by omega) g16 g17
      have hcs : cntB (fl LF S K B sh) (k + 1) = cntB (fl LF S K B sh) k + (if fl LF S K B sh k then 1 else 0) := rfl
      have hup : ∀ c, c < k + 1 → (upd g23 k (zB (fl LF S K B sh k))) c = zB (fl LF S K B sh c) := by
        intro c hc
        simp only [z_upd]
        by_cases z : c = k
        · rw [if_pos z, z]
        · rw [if_neg z]; exact hg c (by omega)
      obtain ⟨d16, d17, d23, g1, g2⟩ := ih (k + 1) (by omega) n e16 e17 (upd g23 k (zB (fl LF S K B sh k))) (by omega) hup
      refine ⟨d16, d17, d23, ?_, g2⟩
      refine (if_neg (show ¬ (48 : Int32) ≤ nI k from nI_ge (a := k) (b := 48) (by omega) (by omega))).trans ?_
      rw [e, z_b, z_ki (by omega) (by omega), z_ki (by omega) (by omega)]
      have nar : vp_nar .boolean (zB (fl LF S K B sh k)) = zB (fl LF S K B sh k) := by cases fl LF S K B sh k <;> rfl
      rw [z_cl (by omega)]
      dsimp only
      rw [nar]
      unfold bX11_fallNow_36
      rw [hcs] at g1
      have e1 : nI k + (1 : Int32) = nI (k + 1) := nI_1 k
      rw [e1]
      cases hf : fl LF S K B sh k with
      | false =>
        rw [hf] at g1
        refine (if_pos (by simp [z_upd]; rfl)).trans ?_
        have e2 : nI (cntB (fl LF S K B sh) k) + (0 : Int32) = nI (cntB (fl LF S K B sh) k + 0) := nI_add _ 0
        rw [e2]
        exact g1
      | true =>
        rw [hf] at g1
        refine (if_neg (by simp [z_upd]; decide)).trans ?_
        have e2 : nI (cntB (fl LF S K B sh) k) + (1 : Int32) = nI (cntB (fl LF S K B sh) k + 1) := nI_1 _
        rw [e2]
        exact g1
  exact key 48 0 rfl u b16 b17 b23 (by omega) (fun c hc => absurd hc (Nat.not_lt_zero c))
/-- the states behind a dig -/
def digS1 (S : Nat → Nat) (c : Nat) : Nat → Nat := fun k => if k = c then 1 else S k
def digS (LF : (Nat → Int32) → Int32) (S K B : Nat → Nat) (sh c : Nat) : Nat → Nat := fun k => if fl LF (digS1 S c) K B sh k then 3 else digS1 S c k
theorem fl_1 {LF : (Nat → Int32) → Int32} {S K B : Nat → Nat} {sh k : Nat} (h : fl LF S K B sh k = true) : S k = 1 := by
  unfold fl at h
  simp at h
  exact h.1
theorem hrm_1 (LH : (Nat → Int32) → Int32) (S K B : Nat → Nat) (sh c : Nat) : hrm LH (digS1 S c) K B sh c = hrm LH S K B sh c := by
  have e : fav (digS1 S c) K B sh 1 c = fav S K B sh 1 c := by
    funext i
    unfold fav
    refine congrArg nI ?_
    unfold fct digS1 opn
    by_cases h8 : c < 8
    · simp only [h8, if_true]
      by_cases h0 : 0 < c % 8
      · simp [show ¬ c - 1 = c by omega, show ¬ c + 1 = c by omega]
      · simp [h0, show ¬ c + 1 = c by omega]
    · simp only [h8, if_false]
      by_cases h0 : 0 < c % 8
      · simp [show ¬ c - 1 = c by omega, show ¬ c + 1 = c by omega, show ¬ c - 8 = c by omega]
      · simp [h0, show ¬ c + 1 = c by omega, show ¬ c - 8 = c by omega]
  unfold hrm
  rw [e]
theorem mS_dig1 {dug prp fal : Int64} {S : Nat → Nat} (M : mS dug prp fal S) {c : Nat} (hc : c < 48) (h : S c = 0 ∨ S c = 3) : mS (dug ||| ((1 : Int64) <<< ((nI c).toInt64 &&& 63))) prp (fal &&& (((1 : Int64) <<< ((nI c).toInt64 &&& 63)) ^^^ (-1))) (digS1 S c) := by
  refine ⟨lS_cong (lS_or M.1 (lS_bit hc)) (fun k _ => ?_), lS_cong M.2.1 (fun k _ => ?_), lS_cong (lS_min M.2.2 (lS_bit hc)) (fun k _ => ?_)⟩
  · unfold digS1
    by_cases e : k = c
    · simp [e]
    · simp [e]
  · unfold digS1
    by_cases e : k = c
    · subst e
      rcases h with h | h <;> simp [h]
    · simp [e]
  · unfold digS1
    by_cases e : k = c
    · simp [e]
    · simp [e]
theorem mS_dig2 {dug prp fal r : Int64} {LF : (Nat → Int32) → Int32} {S K B : Nat → Nat} {sh c : Nat} (M : mS dug prp fal (digS1 S c)) (hr : lS r (fl LF (digS1 S c) K B sh)) : mS (dug &&& (r ^^^ (-1))) prp (fal ||| r) (digS LF S K B sh c) := by
  refine ⟨lS_cong (lS_min M.1 hr) (fun k _ => ?_), lS_cong M.2.1 (fun k _ => ?_), lS_cong (lS_or M.2.2 hr) (fun k _ => ?_)⟩
  · unfold digS
    cases h : fl LF (digS1 S c) K B sh k with
    | false => simp
    | true => simp
  · unfold digS
    cases h : fl LF (digS1 S c) K B sh k with
    | false => simp
    | true => have := fl_1 h; simp [this]
  · unfold digS
    cases h : fl LF (digS1 S c) K B sh k with
    | false => simp
    | true => simp
theorem stOK_dig1 {W H : Nat} {S : Nat → Nat} (St : stOK W H S) {c : Nat} (hg : inG W H c = true) : stOK W H (digS1 S c) := by
  refine ⟨fun k hk => ?_, fun k hk hn => ?_⟩
  · unfold digS1
    have := St.1 k hk
    split <;> omega
  · unfold digS1
    by_cases e : k = c
    · subst e; rw [hg] at hn; cases hn
    · rw [if_neg e]; exact St.2 k hk hn
theorem stOK_dig {W H : Nat} {LF : (Nat → Int32) → Int32} {S K B : Nat → Nat} {sh : Nat} (St : stOK W H S) {c : Nat} (hg : inG W H c = true) : stOK W H (digS LF S K B sh c) := by
  have St1 := stOK_dig1 St hg
  refine ⟨fun k hk => ?_, fun k hk hn => ?_⟩
  · unfold digS
    have := St1.1 k hk
    split <;> omega
  · unfold digS
    have z := St1.2 k hk hn
    cases h : fl LF (digS1 S c) K B sh k with
    | false => simpa using z
    | true => have := fl_1 h; omega
