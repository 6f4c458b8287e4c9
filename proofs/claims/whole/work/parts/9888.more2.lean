/-! QUERIES: risks, sums -/
section NQ5
variable {u : Nat} {S : aT} {h : k_H}
set_option maxRecDepth 4000 in
theorem n_15 (hu : 700 ≤ u) (R : Rel S h) (a1 a2 : Int32) : N_15 u h a1 a2 := by
  obtain ⟨-, ⟨P, ⟨xw, xh, xa, xs, xc, xo, xk, xp, xor⟩, ⟨mw, mh, ms, mc, mo, mk, mp, mor⟩⟩, ⟨lF, lH, xF, xH, mF, mH⟩, ⟨I, X, M⟩, -, -, ⟨r, -, -⟩, -, -⟩ := R
  obtain ⟨Mx, hb, hsh, hdg, hpr, hwe, -⟩ := X
  unfold N_15
  rw [xw, xh, xc, hsh, hdg, hwe, mw, mh]
  unfold f_X10_risks bX10_risks_0 f_X11_risks bX11_risks_0
  rcases d_cell (u := u) P.1.2 P.2.1.2 a1 a2 (h.2.1 69) (h.2.1 71) with ⟨i, j, hi, hj, rfl, rfl, e1, e2⟩ | ⟨e1, e2⟩
  · obtain ⟨hc, hg, e5⟩ := r_cell P hi hj
    have h8 := P.1.2
    have h6 := P.2.1.2
    obtain ⟨g, e3, e4⟩ := m_take (u := u) (by omega) M (h.2.1 91)
    rw [e1, e2, z_b, z_b, if_pos rfl, if_neg d_10, x_obst Mx.1 Mx.2.1 xa xs (Nat.le_trans I.2.2.2.2.2.1 P.2.1.2) hc (by have := I.2.2.2.1; have := P.2.2.1.2; omega) (by have := P.2.2.1.2; omega), z_b, e3, z_b, m_open (u := u) P.1.2 P.2.1.2 e4.1 I.1 (show i < 9 by omega) (show j < 9 by omega), z_b, e5]
    have hop : (decide (i < 8) && decide (j < 6) && opn (aS (rS_M S)) (8 * j + i)) = opn (aS (rS_M S)) (8 * j + i) := by
      rw [decide_eq_true (by omega), decide_eq_true (by omega)]; rfl
    rw [hop, m_hand (u := u) P.1.2 P.2.1.2 e4.1 I.1 ms hc, z_b]
    have hhn : (bsd (opn (aS (rS_M S))) (8 * j + i) || (decide (8 * j + i < 8) && pD (rS_P S) (8 * j + i))) = hnd (pW (rS_P S)) (pH (rS_P S)) (pD (rS_P S)) (aS (rS_M S)) (8 * j + i) := by
      unfold hnd; rw [hg, Bool.true_and]
    rw [hhn]
    cases ho : opn (aS (rS_M S)) (8 * j + i) with
    | true =>
      have hw : why (pW (rS_P S)) (pH (rS_P S)) (pD (rS_P S)) (aS (rS_M S)) (aW (rS_M S)) (8 * j + i) = 1 := by unfold why; rw [if_pos ho]
      rw [hw, if_neg (show ¬ (1 : Nat) = 0 by omega), if_pos p_11, if_neg (show ¬ zB true = (0 : Int32) from d_10)]
      exact ⟨_, _, rfl, rfl, Or.inl ⟨rfl, rfl, rfl⟩, r⟩
    | false =>
      rw [if_pos (show zB false = (0 : Int32) from rfl)]
      cases hh : hnd (pW (rS_P S)) (pH (rS_P S)) (pD (rS_P S)) (aS (rS_M S)) (8 * j + i) with
      | false =>
        have hw : why (pW (rS_P S)) (pH (rS_P S)) (pD (rS_P S)) (aS (rS_M S)) (aW (rS_M S)) (8 * j + i) = 2 := by
          unfold why
          rw [if_neg (by rw [ho]; decide), if_neg (by rw [hh]; decide)]
        rw [hw, if_neg (show ¬ (2 : Nat) = 0 by omega), if_neg (show ¬ nI 2 = (1 : Int32) by decide), if_pos p_22, if_pos (show zB false = (0 : Int32) from rfl)]
        exact ⟨_, _, rfl, rfl, Or.inl ⟨rfl, rfl, rfl⟩, r⟩
      | true =>
        have hS : ¬ aS (rS_M S) (8 * j + i) = 2 := by
          intro z
          unfold opn at ho
          rw [z] at ho
          cases ho
        have hv : ∀ v, v = (if why (pW (rS_P S)) (pH (rS_P S)) (pD (rS_P S)) (aS (rS_M S)) (aW (rS_M S)) (8 * j + i) = 0 then (if pC (rS_P S) ≤ aDg (rS_M S) then 4 else 0) else why (pW (rS_P S)) (pH (rS_P S)) (pD (rS_P S)) (aS (rS_M S)) (aW (rS_M S)) (8 * j + i)) → ¬ nI v = (1 : Int32) ∧ ¬ nI v = (2 : Int32) := by
          intro v hv
          have : v = 0 ∨ v = 3 ∨ v = 4 := by
            have hwv : why (pW (rS_P S)) (pH (rS_P S)) (pD (rS_P S)) (aS (rS_M S)) (aW (rS_M S)) (8 * j + i) = if aW (rS_M S) ≤ (8 * j + i) / 8 then 3 else 0 := by
              unfold why
              rw [if_neg (by rw [ho]; decide), if_pos hh]
            rw [hv, hwv]
            by_cases z : aW (rS_M S) ≤ (8 * j + i) / 8
            · rw [if_pos z]; right; left; rfl
            · rw [if_neg z, if_pos rfl]
              by_cases y : pC (rS_P S) ≤ aDg (rS_M S)
              · rw [if_pos y]; right; right; rfl
              · rw [if_neg y]; left; rfl
          rcases this with rfl | rfl | rfl <;> decide
        obtain ⟨v1, v2⟩ := hv _ rfl
        rw [if_neg v1, if_neg v2, if_neg (show ¬ zB true = (0 : Int32) from d_10), z_ki (by omega) (by omega), z_cl (by omega)]
        unfold f_X7_risksOf bX7_risksOf_0 f_X3_copyFrom bX3_copyFrom_0
        rw [z_b]
        have s1 : lS (h.2.2.1 26 3 ||| ((1 : Int64) <<< ((nI (8 * j + i)).toInt64 &&& 63))) (fun c => digS1 (aS (rS_M S)) (8 * j + i) c == 1) := by
          refine lS_cong (lS_or Mx.1 (lS_bit hc)) (fun k hk => ?_)
          unfold digS1
          by_cases z : k = 8 * j + i
          · rw [if_pos z, decide_eq_true z, Bool.or_true]; rfl
          · rw [if_neg z, decide_eq_false z, Bool.or_false]
        have s2 : lS (h.2.2.1 26 4) (fun c => digS1 (aS (rS_M S)) (8 * j + i) c == 2) := by
          refine lS_cong Mx.2.1 (fun k hk => ?_)
          unfold digS1
          by_cases z : k = 8 * j + i
          · rw [if_pos z, z]
            have : (aS (rS_M S) (8 * j + i) == 2) = false := beq_false_of_ne hS
            show (aS (rS_M S) (8 * j + i) == 2) = _
            rw [this]; rfl
          · rw [if_neg z]
        obtain ⟨rd, ad, f1, f2⟩ := x_doomed (u := u) (sh := aSh (rS_M S)) s1 s2 xk xF (by omega) (h.2.1 19)
        have A' : sA (upd g (8 * j + i) (1 : Int32)) (digS1 (aS (rS_M S)) (8 * j + i)) := by
          intro c hc'
          simp only [z_upd]
          unfold digS1
          by_cases z : c = 8 * j + i
          · rw [if_pos z, if_pos z]; rfl
          · rw [if_neg z, if_neg z]; exact e4.1 c hc'
        have St' : stOK (pW (rS_P S)) (pH (rS_P S)) (digS1 (aS (rS_M S)) (8 * j + i)) := by
          refine ⟨fun c hc' => ?_, fun c hc' hgc => ?_⟩
          · unfold digS1; split
            · omega
            · exact I.1.1 c hc'
          · unfold digS1
            rw [if_neg (fun z => by rw [z, hg] at hgc; cases hgc)]
            exact I.1.2 c hc' hgc
        have h69 : upd g (8 * j + i) (1 : Int32) 69 = nI (aSh (rS_M S)) := by
          simp only [z_upd]
          rw [if_neg (by omega)]
          exact e4.2.2.1
        obtain ⟨c1, c2, c3, f3, -⟩ := m_fallNow (u := u) (sh := aSh (rS_M S)) P.1.2 P.2.1.2 A' St' mk h69 mF lF (by omega) (h.2.1 86) (h.2.1 87) (h.2.1 93)
        rw [f1, z_b, lS_cnt f2, z_b, f3, z_b]
        exact ⟨_, _, rfl, rfl, Or.inl ⟨rfl, rfl, rfl⟩, r⟩
  · rw [e1, e2, z_b, z_b, if_neg d_10, if_pos rfl]
    exact ⟨_, _, rfl, rfl, Or.inr ⟨rfl, rfl⟩, r_upd r (by omega)⟩
/-- the reference counts cells -/
theorem m_sums {p : aP} {m : aM} (P : pOK p) (I : mOK p m) {d : Int32} (ms : shA d (pD p)) {a20 g : Nat → Int32} (A : sA g (aS m)) {w : Nat} (hw : w = 2 ∨ w = 3) {F : Nat → Bool} (hF : F = if w = 2 then opn (aS m) else fun c => hnd (pW p) (pH p) (pD p) (aS m) c && !opn (aS m) c) (c0 : Int32) (a1 : Nat → Int32) :
    ∀ r k n, k + r = 48 → r < n → bX11_sums_52 u (nI (pW p)) (nI (pH p)) d a20 n c0 a1 g (nI w) (nI (cntB F k)) (nI k) = some (nI (cntB F 48), c0, a1, g) := by
  have h8 := P.1.2
  have h6 := P.2.1.2
  intro r
  induction r with
  | zero =>
    intro k n hk hn
    obtain ⟨n, rfl⟩ := z_suc hn
    obtain rfl : k = 48 := by omega
    rw [bX11_sums_52]
    exact if_pos (show (48 : Int32) ≤ nI 48 by decide)
  | succ r ih =>
    intro k n hk hn
    obtain ⟨n, rfl⟩ := z_suc hn
    have hk48 : k < 48 := by omega
    rw [bX11_sums_52]
    refine (if_neg (nI_ge (a := k) (b := 48) (by omega) (by omega))).trans ?_
    have ex : nI k - nI k / (8 : Int32) * (8 : Int32) = nI (k % 8) := by
      simp (disch := omega) only [z_lit, z_div, pk_mul, z_sub]
      rw [show k - k / 8 * 8 = k % 8 by omega]
    have ey : nI k / (8 : Int32) = nI (k / 8) := by
      simp (disch := omega) only [z_lit, z_div]
    have e1 : nI k + (1 : Int32) = nI (k + 1) := nI_1 k
    have hc : cntB F (k + 1) = cntB F k + (if F k then 1 else 0) := rfl
    rw [ex, ey, m_open (u := u) P.1.2 P.2.1.2 A I.1 (show k % 8 < 9 by omega) (show k / 8 < 9 by omega), z_b]
    have hop : (decide (k % 8 < 8) && decide (k / 8 < 6) && opn (aS m) (8 * (k / 8) + k % 8)) = opn (aS m) k := by
      rw [decide_eq_true (by omega), decide_eq_true (by omega), show 8 * (k / 8) + k % 8 = k by omega]; rfl
    rw [hop]
    have nxt : ∀ b : Bool, b = F k → bX11_sums_124 u (nI (pW p)) (nI (pH p)) d a20 (bX11_sums_52 u (nI (pW p)) (nI (pH p)) d a20 n) c0 a1 g (nI w) (nI k) (zB b) (nI (cntB F k)) = some (nI (cntB F 48), c0, a1, g) := by
      intro b hb
      unfold bX11_sums_124
      rw [e1]
      have := ih (k + 1) n (by omega) (by omega)
      rw [hc, ← hb] at this
      cases b with
      | true => rw [show nI (cntB F k) + zB true = nI (cntB F k + 1) from nI_1 _]; exact this
      | false => rw [show nI (cntB F k) + zB false = nI (cntB F k + 0) from nI_add _ 0]; exact this
    rcases hw with rfl | rfl
    · rw [if_pos p_22]
      have hFk : F k = opn (aS m) k := by rw [hF, if_pos rfl]
      cases ho : opn (aS m) k with
      | true => rw [if_neg (show ¬ zB true = (0 : Int32) from d_10)]; exact nxt true (by rw [hFk, ho])
      | false => rw [if_pos (show zB false = (0 : Int32) from rfl)]; exact nxt false (by rw [hFk, ho])
    · rw [if_neg (show ¬ nI 3 = (2 : Int32) by decide)]
      have hFk : F k = (hnd (pW p) (pH p) (pD p) (aS m) k && !opn (aS m) k) := by rw [hF, if_neg (by omega)]
      cases ho : opn (aS m) k with
      | true =>
        rw [if_neg (show ¬ zB true = (0 : Int32) from d_10)]
        unfold bX11_sums_123
        exact nxt false (by rw [hFk, ho, Bool.not_true, Bool.and_false])
      | false =>
        rw [if_pos (show zB false = (0 : Int32) from rfl), m_isIn (u := u) (by omega) (by omega) (by omega) (by omega), z_b]
        have hg : (decide (k % 8 < pW p) && decide (k / 8 < pH p)) = inG (pW p) (pH p) k := rfl
        rw [hg]
        cases hi : inG (pW p) (pH p) k with
        | false =>
          rw [if_pos (show zB false = (0 : Int32) from rfl)]
          unfold bX11_sums_123
          exact nxt false (by rw [hFk]; unfold hnd; rw [hi]; rfl)
        | true =>
          rw [if_neg (show ¬ zB true = (0 : Int32) from d_10), m_hand (u := u) P.1.2 P.2.1.2 A I.1 ms hk48, z_b]
          have hh : hnd (pW p) (pH p) (pD p) (aS m) k = (bsd (opn (aS m)) k || (decide (k < 8) && pD p k)) := by unfold hnd; rw [hi, Bool.true_and]
          rw [hh, ho, Bool.not_false, Bool.and_true] at hFk
          cases hb : (bsd (opn (aS m)) k || (decide (k < 8) && pD p k)) with
          | false =>
            rw [if_pos (show zB false = (0 : Int32) from rfl)]
            unfold bX11_sums_123
            exact nxt false (by rw [hFk, hb])
          | true =>
            rw [if_neg (show ¬ zB true = (0 : Int32) from d_10)]
            exact nxt true (by rw [hFk, hb])
theorem n_32 (hu : 700 ≤ u) (R : Rel S h) (a1 : Int32) : N_32 u h a1 := by
  obtain ⟨-, ⟨P, ⟨xw, xh, xa, xs, xc, xo, xk, xp, xor⟩, ⟨mw, mh, ms, mc, mo, mk, mp, mor⟩⟩, -, ⟨I, X, M⟩, -, -, ⟨r, -, -⟩, -, -⟩ := R
  obtain ⟨Mx, hb, hsh, hdg, hpr, hwe, hpe, hlu, hra, hfe, -⟩ := X
  have m75 := M.2.2.2.2.2.2.2.2.1
  have m76 := M.2.2.2.2.2.2.2.2.2.1
  unfold N_32
  rw [mw, mh]
  unfold f_X10_sums bX10_sums_0 f_X11_sums bX11_sums_0
  rcases d_to (u := u) (n := 3) (by omega) a1 with ⟨w, hw, rfl, q1, q2, e⟩ | ⟨q, e⟩
  · rw [show f_X11_within u (nI w) (0 : Int32) (3 : Int32) = _ from e, z_b, m_need1, z_b, if_neg d_10, if_neg q1, if_neg (show ¬ (3 : Int32) < nI w from q2)]
    unfold bX10_sums_15
    rw [x_need1, z_b, if_pos rfl]
    obtain ⟨g, e3, e4⟩ := m_take (u := u) (by omega) M (h.2.1 91)
    match w, hw with
    | 0, _ => exact ⟨_, _, rfl, rfl, Or.inl ⟨rfl, rfl, hra.trans m75.symm⟩, r⟩
    | 1, _ => exact ⟨_, _, rfl, rfl, Or.inl ⟨rfl, rfl, hfe.trans m76.symm⟩, r⟩
    | 2, _ =>
      have o1 : f_X3_openCells u (h.2.2.1 26 3) (h.2.2.1 26 4) = some (h.2.2.1 26 3 ||| h.2.2.1 26 4) := rfl
      have o2 : lS (h.2.2.1 26 3 ||| h.2.2.1 26 4) (opn (aS (rS_M S))) := lS_open Mx.1 Mx.2.1
      rw [if_neg (show ¬ nI 2 = (0 : Int32) from d_20), if_neg (show ¬ nI 2 = (1 : Int32) by decide), if_pos p_22, o1, z_b, lS_cnt o2, z_b, if_pos (show (2 : Int32) ≤ nI 2 by decide), e3, z_b]
      have := m_sums (u := u) (a20 := h.2.1 90) P I ms e4.1 (w := 2) (Or.inl rfl) (F := opn (aS (rS_M S))) (by rw [if_pos rfl]) (0 : Int32) (h.2.1 71) 48 0 u (by omega) (by omega)
      exact ⟨_, _, rfl, this, Or.inl ⟨rfl, rfl, rfl⟩, r⟩
    | 3, _ =>
      have o1 : f_X3_openCells u (h.2.2.1 26 3) (h.2.2.1 26 4) = some (h.2.2.1 26 3 ||| h.2.2.1 26 4) := rfl
      have o2 : lS (h.2.2.1 26 3 ||| h.2.2.1 26 4) (opn (aS (rS_M S))) := lS_open Mx.1 Mx.2.1
      obtain ⟨hl, k1, k2⟩ := xq_hand (u := u) Mx.1 Mx.2.1 xa xs
      rw [if_neg (show ¬ nI 3 = (0 : Int32) from d_30), if_neg (show ¬ nI 3 = (1 : Int32) by decide), if_neg (show ¬ nI 3 = (2 : Int32) by decide), k1, z_b, o1, z_b, lS_cnt (lS_min k2 o2), z_b, if_pos (show (2 : Int32) ≤ nI 3 by decide), e3, z_b]
      have := m_sums (u := u) (a20 := h.2.1 90) P I ms e4.1 (w := 3) (Or.inr rfl) (F := fun c => hnd (pW (rS_P S)) (pH (rS_P S)) (pD (rS_P S)) (aS (rS_M S)) c && !opn (aS (rS_M S)) c) (by rw [if_neg (by omega)]) (0 : Int32) (h.2.1 71) 48 0 u (by omega) (by omega)
      exact ⟨_, _, rfl, this, Or.inl ⟨rfl, rfl, rfl⟩, r⟩
    | w + 4, h => omega
  · rw [show f_X11_within u a1 (0 : Int32) (3 : Int32) = _ from e, z_b, m_need0, z_b, if_pos rfl]
    exact ⟨_, _, r_ifR (n := 3) q, rfl, Or.inr ⟨rfl, rfl⟩, r_upd r (by omega)⟩
end NQ5
