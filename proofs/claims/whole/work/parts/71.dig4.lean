/-! DIGGING: the reference's whole method -/
section MD
variable {u W H sh w : Nat} {a7 a8 m13 m14 m15 : Nat → Int32} {S K B : Nat → Nat} {LF LH : (Nat → Int32) → Int32}
theorem m_dig2 (hW : W ≤ 8) (hH : H ≤ 6) (St : stOK W H S) (E : kbA a7 a8 K B) (L : lawM 0 m13 m14 m15 LF) (hc' : lcong LF) (hu : 160 ≤ u) {c : Nat} (hc : c < 48) (hg : inG W H c = true) (q0 : S c = 0) (hK : K c ≤ 5) (hw : w ≤ 6) {g : Nat → Int32} (A : sA g S) (hsh : g 69 = nI sh) (hwt : g 74 = nI w) (b16 b17 b23 : Nat → Int32) :
    ∃ d16 d17 d21 d23, bX11_digs_81 u (nI W) (nI H) a7 a8 m13 m14 m15 b16 b17 g b23 (nI c) (nI (K c)) = some (d16, d17, d21, d23) ∧ sA d21 (digS LF S K B sh c) ∧ d21 76 = g 76 + nI (cntB (fl LF (digS1 S c) K B sh) 48) ∧ d21 74 = nI (dW S K w c) ∧ ∀ k, 48 ≤ k → k ≠ 76 → k ≠ 74 → d21 k = g k := by
  unfold bX11_digs_81
  have e4 : nI c / (8 : Int32) = nI (c / 8) := pk_div (d := 8) (by omega) (by omega) (by omega)
  rw [e4, hwt]
  by_cases k5 : K c = 5
  · by_cases z : c / 8 < w
    · obtain ⟨d16, d17, d21, d23, e, f1, f2, f3⟩ := m_dig1 hW hH St E L hc' hu hc hg (g := upd g 74 (nI (c / 8))) (fun k hk => by simp only [z_upd]; rw [if_neg (by omega)]; exact A k hk) (by simp only [z_upd]; rw [if_neg (by omega)]; exact hsh) b16 b17 b23
      refine ⟨d16, d17, d21, d23, ?_, f1, ?_, ?_, ?_⟩
      · refine (if_pos (show nI (K c) = (5 : Int32) by rw [k5]; rfl)).trans ?_
        refine (if_neg (nI_ge z (by omega))).trans ?_
        exact e
      · rw [f2]; simp only [z_upd]; rw [if_neg (by omega)]
      · rw [f3 74 (by omega) (by omega)]
        simp only [z_upd]
        unfold dW
        rw [if_pos trivial, if_pos ⟨q0, k5, z⟩]
      · intro k h1 h2 h3
        rw [f3 k h1 h2]
        simp only [z_upd]
        rw [if_neg h3]
    · obtain ⟨d16, d17, d21, d23, e, f1, f2, f3⟩ := m_dig1 hW hH St E L hc' hu hc hg A hsh b16 b17 b23
      refine ⟨d16, d17, d21, d23, ?_, f1, f2, ?_, fun k h1 h2 _ => f3 k h1 h2⟩
      · refine (if_pos (show nI (K c) = (5 : Int32) by rw [k5]; rfl)).trans ?_
        refine (if_pos (nI_le (a := w) (b := c / 8) (by omega) (by omega))).trans ?_
        exact e
      · rw [f3 74 (by omega) (by omega), hwt]
        unfold dW
        rw [if_neg (fun h => z h.2.2)]
  · obtain ⟨d16, d17, d21, d23, e, f1, f2, f3⟩ := m_dig1 hW hH St E L hc' hu hc hg A hsh b16 b17 b23
    refine ⟨d16, d17, d21, d23, ?_, f1, f2, ?_, fun k h1 h2 _ => f3 k h1 h2⟩
    · refine (if_neg (show ¬ nI (K c) = (5 : Int32) from ?_)).trans ?_
      · show ¬ nI (K c) = nI 5
        rw [show (nI (K c) = nI 5) = (K c = 5) from z_eq (by omega) (by omega)]
        exact k5
      · exact e
    · rw [f3 74 (by omega) (by omega), hwt]
      unfold dW
      rw [if_neg (fun h => k5 h.2.1)]
/-- what a dig makes of the reference's row s, behind the cells -/
def dR (LF LH : (Nat → Int32) → Int32) (S K B : Nat → Nat) (sh w c : Nat) (g d : Nat → Int32) : Prop :=
  d 73 = (if brl S B c = 0 then g 73 else g 73 + nI (brl S B c) * hrm LH S K B sh c) ∧ d 74 = nI (dW S K w c) ∧ d 75 = (if brl S B c = 0 then g 75 else g 75 + nI (brl S B c)) ∧ d 76 = g 76 + nI (cntB (fl LF (digS1 S c) K B sh) 48) ∧
  (∀ k, k < 5 → d (48 + k) = if brl S B c = 0 then g (48 + k) else (if k = K c then g (48 + k) + nI (brl S B c) else g (48 + k))) ∧ ∀ k, 53 ≤ k → k < 73 → d k = g k
theorem m_dig (hW : W ≤ 8) (hH : H ≤ 6) (St : stOK W H S) (E : kbA a7 a8 K B) (L : lawM 0 m13 m14 m15 LF) (L2 : lawM 1 m13 m14 m15 LH) (hc' : lcong LF) (hc2 : lcong LH) (hu : 160 ≤ u) {c : Nat} (hc : c < 48) (hg : inG W H c = true) (hS : S c = 0 ∨ S c = 3) (hK : K c ≤ 5) (hKB : 0 < B c → K c ≤ 4) (hB : B c ≤ 9) (hw : w ≤ 6) {g : Nat → Int32} (A : sA g S) (hsh : g 69 = nI sh) (hwt : g 74 = nI w) (b16 b17 b23 : Nat → Int32) :
    ∃ d16 d17 d21 d23, f_X11_digs u (nI W) (nI H) a7 a8 m13 m14 m15 b16 b17 g b23 (nI c) = some (d16, d17, d21, d23) ∧ sA d21 (digS LF S K B sh c) ∧ dR LF LH S K B sh w c g d21 := by
  unfold f_X11_digs bX11_digs_0
  rw [z_ki (by omega) (by omega), z_cl (by omega), A c hc]
  rcases hS with q0 | q3
  · have hb : brl S B c = B c := by unfold brl; rw [if_pos q0]
    have e0 : ∀ X Y : Option ((Nat → Int32) × (Nat → Int32) × (Nat → Int32) × (Nat → Int32)), (if nI (S c) = (0 : Int32) then X else Y) = X := fun X Y => if_pos (by rw [q0]; rfl)
    rw [e0, z_ki hc (by omega), z_ki hc (by omega), E.2 c hc, E.1 c hc]
    by_cases z : B c = 0
    · obtain ⟨d16, d17, d21, d23, e, f1, f2, f3, f4⟩ := m_dig2 hW hH St E L hc' hu hc hg q0 hK hw A hsh hwt b16 b17 b23
      refine ⟨d16, d17, d21, d23, (if_pos (by rw [z]; decide)).trans e, f1, ?_⟩
      unfold dR
      rw [hb]
      simp only [z, if_true]
      exact ⟨f4 73 (by omega) (by omega) (by omega), f3, f4 75 (by omega) (by omega) (by omega), f2, fun k hk => f4 _ (by omega) (by omega) (by omega), fun k h1 h2 => f4 k (by omega) (by omega) (by omega)⟩
    · have k4 := hKB (by omega)
      obtain ⟨e16, e17, eh⟩ := m_harm (u := u) hW hH A St E hsh L2 hc2 hu hc b16 b17
      have e48 : (48 : Int32) + nI (K c) = nI (48 + K c) := nI_add 48 (K c)
      obtain ⟨d16, d17, d21, d23, e, f1, f2, f3, f4⟩ := m_dig2 hW hH St E L hc' hu hc hg q0 hK hw (g := upd (upd (upd g 73 (g 73 + nI (B c) * hrm LH S K B sh c)) (48 + K c) ((upd g 73 (g 73 + nI (B c) * hrm LH S K B sh c)) (48 + K c) + nI (B c))) 75 ((upd (upd g 73 (g 73 + nI (B c) * hrm LH S K B sh c)) (48 + K c) ((upd g 73 (g 73 + nI (B c) * hrm LH S K B sh c)) (48 + K c) + nI (B c))) 75 + nI (B c)))
        (fun k hk => by simp only [z_upd]; rw [if_neg (by omega), if_neg (by omega), if_neg (by omega)]; exact A k hk) (by simp only [z_upd]; rw [if_neg (by omega), if_neg (by omega), if_neg (by omega)]; exact hsh) (by simp only [z_upd]; rw [if_neg (by omega), if_neg (by omega), if_neg (by omega)]; exact hwt) e16 e17 b23
      refine ⟨d16, d17, d21, d23, (if_neg (show ¬ nI (B c) ≤ (0 : Int32) from nI_ge (a := 0) (b := B c) (by omega) (by omega))).trans ?_, f1, ?_⟩
      · rw [z_ki hc (by omega), eh, z_b, e48, z_ki (by omega) (by omega), z_ki hc (by omega), z_cl (by omega), z_ki (by omega) (by omega), z_ki hc (by omega)]
        exact e
      · unfold dR
        rw [hb]
        simp only [z, if_false]
        refine ⟨?_, f3, ?_, ?_, ?_, ?_⟩
        · rw [f4 73 (by omega) (by omega) (by omega)]
          simp only [z_upd]
          rw [if_neg (by omega), if_neg (by omega), if_pos trivial]
        · rw [f4 75 (by omega) (by omega) (by omega)]
          simp only [z_upd]
          rw [if_pos trivial, if_neg (by omega), if_neg (by omega)]
        · rw [f2]
          simp only [z_upd]
          rw [if_neg (by omega), if_neg (by omega), if_neg (by omega)]
        · intro k hk
          rw [f4 (48 + k) (by omega) (by omega) (by omega)]
          simp only [z_upd]
          rw [if_neg (by omega)]
          by_cases y : k = K c
          · rw [if_pos (by omega), if_pos y, if_neg (by omega), y]
          · rw [if_neg (by omega), if_neg y, if_neg (by omega)]
        · intro k h1 h2
          rw [f4 k (by omega) (by omega) (by omega)]
          simp only [z_upd]
          rw [if_neg (by omega), if_neg (by omega), if_neg (by omega)]
  · have hb : brl S B c = 0 := by unfold brl; rw [if_neg (by omega)]
    have e0 : ∀ X Y : Option ((Nat → Int32) × (Nat → Int32) × (Nat → Int32) × (Nat → Int32)), (if nI (S c) = (0 : Int32) then X else Y) = Y := fun X Y => if_neg (by rw [q3]; decide)
    rw [e0]
    obtain ⟨d16, d17, d21, d23, e, f1, f2, f3⟩ := m_dig1 hW hH St E L hc' hu hc hg A hsh b16 b17 b23
    refine ⟨d16, d17, d21, d23, e, f1, ?_⟩
    unfold dR
    rw [hb]
    simp only [if_true]
    refine ⟨f3 73 (by omega) (by omega), ?_, f3 75 (by omega) (by omega), f2, fun k hk => f3 _ (by omega) (by omega), fun k h1 h2 => f3 k (by omega) (by omega)⟩
    rw [f3 74 (by omega) (by omega), hwt]
    unfold dW
    rw [if_neg (by omega)]
theorem m_why {a21 : Nat → Int32} {d : Int32} {D : Nat → Bool} (hW : W ≤ 8) (hH : H ≤ 6) (A : sA a21 S) (St : stOK W H S) (Sd : shA d D) (hwt : a21 74 = nI w) (hw : w ≤ 6) {c : Nat} (hc : c < 48) (hg : inG W H c = true) : f_X11_whyNot u (nI W) (nI H) d a21 (nI c) = some (nI (why W H D S w c)) := by
  unfold f_X11_whyNot bX11_whyNot_0
  have e0 : c - c / 8 * 8 = c % 8 := by omega
  simp (disch := omega) only [z_lit, z_div, pk_mul, z_sub, e0]
  rw [m_open hW hH A St (by omega) (by omega), z_b, show 8 * (c / 8) + c % 8 = c by omega, m_hand hW hH A St Sd hc, hwt]
  simp only [z_b, zB_eq0]
  unfold why hnd
  rw [hg]
  cases q1 : opn S c with
  | true => simp [show c % 8 < 8 by omega, show c / 8 < 6 by omega]
  | false =>
    generalize (bsd (opn S) c || (decide (c < 8) && D c)) = hb
    cases hb with
    | false => simp
    | true =>
      by_cases z : c / 8 < w
      · simp (disch := omega) only [z_lt, z, if_true, show ¬ w ≤ c / 8 by omega, if_false]
        simp
      · simp (disch := omega) only [z_lt, z, if_false, show w ≤ c / 8 by omega, if_true]
        simp
end MD
