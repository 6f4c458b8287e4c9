/-! A SHIFT OF A DECADE: the crew digs as long as it may and can; the draw -/
section DGS
variable (LF LH : (Nat → Int32) → Int32) (p : aP)
def dgS : Nat → aM → aM
  | 0, m => m
  | n + 1, m => if pkb p m 48 = 0 then m else dgS n (digM LF LH p m (pkb p m 48 - 1))
end DGS
section DGS2
variable {u : Nat} {p : aP} {LF LH : (Nat → Int32) → Int32}
theorem pick_ok {m : aM} (I : mOK p m) (h : pkb p m 48 ≠ 0) : pkb p m 48 - 1 < 48 ∧ inG (pW p) (pH p) (pkb p m 48 - 1) = true ∧ (aS m (pkb p m 48 - 1) = 0 ∨ aS m (pkb p m 48 - 1) = 3) := by
  have h1 := pkb_le p m 48
  have h2 := pkb_c p m 48 h
  have hl : pkb p m 48 - 1 < 48 := by omega
  unfold cand at h2
  have ha : able (pW p) (pH p) (pD p) (aS m) (aW m) (pkb p m 48 - 1) = true := by
    cases z : able (pW p) (pH p) (pD p) (aS m) (aW m) (pkb p m 48 - 1) with
    | true => rfl
    | false => rw [z] at h2; exact Bool.noConfusion h2
  have hg : inG (pW p) (pH p) (pkb p m 48 - 1) = true := by
    cases z : inG (pW p) (pH p) (pkb p m 48 - 1) with
    | true => rfl
    | false => unfold able hnd at ha; rw [z] at ha; exact Bool.noConfusion ha
  exact ⟨hl, hg, why_0 I hl ((why_able hg).mpr ha)⟩
theorem dgS_ok (P : pOK p) : ∀ (r : Nat) (m : aM), mOK p m → aDg m + r = pC p → mOK p (dgS LF LH p r m) ∧ aSh (dgS LF LH p r m) = aSh m
  | 0, m, I, _ => ⟨I, rfl⟩
  | r + 1, m, I, h => by
    unfold dgS
    by_cases z : pkb p m 48 = 0
    · rw [if_pos z]; exact ⟨I, rfl⟩
    · rw [if_neg z]
      have k := pick_ok I z
      have I2 : mOK p (digM LF LH p m (pkb p m 48 - 1)) := digM_ok P I k.1 k.2.1 k.2.2 (by omega)
      have e : aDg (digM LF LH p m (pkb p m 48 - 1)) = aDg m + 1 := rfl
      exact dgS_ok P r _ I2 (by rw [e]; omega)
theorem x_digS (P : pOK p) {wid c51 c58 c510 : Int32} {c55 c56 : Int64} {a6 a7 a8 a9 a10 a11 c13 c16 : Nat → Int32} {l12 l15 : Int32} (E : xPit p wid c51 c55 c56 c58 c510 a6 a7 a8 a9 a10 a11) (L : lawX l12 c13 LF) (L2 : lawX l15 c16 LH) (hu : 160 ≤ u) {shift props pence : Int32} {prp : Int64} {sold gone fates : Nat → Int32} :
    ∀ (r : Nat) (m : aM) (i n : Nat) (digs lungs wetr raised fell : Int32) (dug fal : Int64) (belt a14 a17 : Nat → Int32), mOK p m → aDg m + r = pC p → i + r ≤ 9 → r < n → xMine m shift digs props pence lungs wetr raised fell dug prp fal belt sold gone fates →
      ∃ o, bX3_digShift_15 u shift prp c58 c55 c56 a6 a7 l12 c13 l15 c16 n digs lungs wetr raised fell dug fal belt a14 a17 (nI (i + r)) (nI i) = some o ∧ xMine (dgS LF LH p r m) shift o.1 props pence o.2.1 o.2.2.1 o.2.2.2.1 o.2.2.2.2.1 o.2.2.2.2.2.1 prp o.2.2.2.2.2.2.1 o.2.2.2.2.2.2.2.1 sold gone fates := by
  intro r
  induction r with
  | zero =>
    intro m i n digs lungs wetr raised fell dug fal belt a14 a17 I h hi hn X
    obtain ⟨n, rfl⟩ := z_suc hn
    refine ⟨(digs, lungs, wetr, raised, fell, dug, fal, belt, a14, a17), ?_, X⟩
    rw [bX3_digShift_15]
    exact if_pos (nI_le (a := i + 0) (b := i) (by omega) (by omega))
  | succ r ih =>
    intro m i n digs lungs wetr raised fell dug fal belt a14 a17 I h hi hn X
    obtain ⟨n, rfl⟩ := z_suc hn
    have X0 := X
    obtain ⟨M, hb, es, ed, ep, ew, -⟩ := X
    rw [bX3_digShift_15]
    have ei : nI i + (1 : Int32) = nI (i + 1) := nI_1 i
    have pk := x_pick (u := u) P I M E.2.2.2.2.2.2.1 E.2.2.1 E.2.2.2.1 (by omega)
    rw [← ew] at pk
    unfold dgS
    by_cases z : pkb p m 48 = 0
    · rw [if_pos z]
      refine ⟨(digs, lungs, wetr, raised, fell, dug, fal, belt, a14, a17), ?_, X0⟩
      refine (if_neg (nI_ge (a := i) (b := i + (r + 1)) (by omega) (by omega))).trans ?_
      rw [pk, z_b]
      exact if_pos (by rw [z]; decide)
    · rw [if_neg z]
      have k := pick_ok I z
      obtain ⟨o, e, f⟩ := xdig (u := u) P I E.2.2.2.2.2.2.1 L L2 hu k.1 k.2.2 X0 a14 a17
      have I2 : mOK p (digM LF LH p m (pkb p m 48 - 1)) := digM_ok P I k.1 k.2.1 k.2.2 (by omega)
      have e2 : aDg (digM LF LH p m (pkb p m 48 - 1)) = aDg m + 1 := rfl
      obtain ⟨o2, g, x⟩ := ih (digM LF LH p m (pkb p m 48 - 1)) (i + 1) n _ _ _ _ _ _ _ _ o.2.2.2.2.2.2.2.2.1 o.2.2.2.2.2.2.2.2.2 I2 (by rw [e2]; omega) (by omega) (by omega) f
      refine ⟨o2, ?_, x⟩
      refine (if_neg (nI_ge (a := i) (b := i + (r + 1)) (by omega) (by omega))).trans ?_
      rw [pk, z_b, z_sub (by omega)]
      refine (if_neg (show ¬ nI (pkb p m 48 - 1) = (-1 : Int32) by
        show ¬ nI (pkb p m 48 - 1) = -nI 1
        rw [z_em (by omega) (by omega)]; omega)).trans ?_
      rw [e, z_b, ei]
      rw [show i + 1 + r = i + (r + 1) by omega] at g
      exact g
theorem m_digS (P : pOK p) {c25 c26 c27 c28 c30 : Int32} {a7 a8 a9 a10 m13 m14 m15 a20 : Nat → Int32} (E : mPit p c25 c26 c27 c28 c30 a7 a8 a9 a10) (L : lawM 0 m13 m14 m15 LF) (L2 : lawM 1 m13 m14 m15 LH) (hc1 : lcong LF) (hc2 : lcong LH) (hu : 160 ≤ u) {k17 : Int32 → Int32 → (Nat → Int32) → (Nat → Int32) → (Nat → Int32) → (Nat → Int32) → (Nat → Int32) → Int32 → Int32 → Int32 → Option (Int32 × Int32 × (Nat → Int32) × (Nat → Int32) × (Nat → Int32) × (Nat → Int32) × (Nat → Int32))} {x62 x63 v2 v3 v4 : Int32} {b24 : Nat → Int32} :
    ∀ (r : Nat) (m : aM) (n : Nat) (b16 b17 g b23 : Nat → Int32), mOK p m → aDg m + r = pC p → r < n → mMine m g →
      ∃ d16 d17 d d23, bX11_goesOn_57 u c25 c26 c27 c28 c30 a7 a8 a9 a10 m13 m14 m15 a20 k17 n x62 x63 b16 b17 g b23 b24 v2 v3 v4 (nI 0) = bX11_goesOn_106 u c25 c26 c27 c28 c30 a7 a8 a9 a10 m13 m14 m15 a20 k17 x62 x63 d16 d17 d d23 b24 v2 v3 v4 ∧ mMine (dgS LF LH p r m) d := by
  obtain ⟨h25, h26, hD, h28, h30, hKB, hPr, hOr⟩ := E
  have hC := P.2.2.1.2
  intro r
  induction r with
  | zero =>
    intro m n b16 b17 g b23 I h hn X
    obtain ⟨n, rfl⟩ := z_suc hn
    refine ⟨b16, b17, g, b23, ?_, X⟩
    rw [bX11_goesOn_57]
    refine (if_pos rfl).trans ?_
    exact if_pos (by rw [h28, X.2.2.2.1]; exact nI_le (a := pC p) (b := aDg m) (by omega) (by omega))
  | succ r ih =>
    intro m n b16 b17 g b23 I h hn X
    obtain ⟨n, rfl⟩ := z_suc hn
    have pk := m_pick (u := u) P I h25 h26 hD hKB X (by omega)
    have X1 : sA (upd g 70 (g 70 + (1 : Int32))) (aS m) := fun c hc => by simp only [z_upd]; rw [if_neg (by omega)]; exact X.1 c hc
    rw [bX11_goesOn_57]
    unfold dgS
    by_cases z : pkb p m 48 = 0
    · rw [if_pos z]
      refine ⟨b16, b17, g, b23, ?_, X⟩
      refine (if_pos rfl).trans ?_
      refine (if_neg (by rw [h28, X.2.2.2.1]; exact nI_ge (a := aDg m) (b := pC p) (by omega) (by omega))).trans ?_
      rw [pk, z_b]
      exact if_pos (by rw [z]; decide)
    · rw [if_neg z]
      have k := pick_ok I z
      -- the second look: nothing of it hangs on the digs
      have X2 : mMine (aS m, aB m, aSh m, aDg m + 1, aPr m, aW m, aPe m, aLu m, aRa m, aFe m, aSo m, aGo m, aFa m) (upd g 70 (g 70 + (1 : Int32))) := by
        obtain ⟨A, hb, h69, h70, h71, h74, h72, h73, h75, h76, hso, hgo, hfa⟩ := X
        have up : ∀ j, j ≠ 70 → upd g 70 (g 70 + (1 : Int32)) j = g j := fun j hj => by simp only [z_upd]; rw [if_neg hj]
        refine ⟨X1, fun k hk => by rw [up _ (by omega)]; exact hb k hk, ?_, ?_, ?_, ?_, ?_, ?_, ?_, ?_, fun k hk => by rw [up _ (by omega)]; exact hso k hk, fun k hk => by rw [up _ (by omega)]; exact hgo k hk, fun k hk => by rw [up _ (by omega)]; exact hfa k hk⟩
        · rw [up 69 (by omega)]; exact h69
        · simp only [z_upd]; rw [if_pos trivial, h70]; exact nI_1 _
        · rw [up 71 (by omega)]; exact h71
        · rw [up 74 (by omega)]; exact h74
        · rw [up 72 (by omega)]; exact h72
        · rw [up 73 (by omega)]; exact h73
        · rw [up 75 (by omega)]; exact h75
        · rw [up 76 (by omega)]; exact h76
      have I3 : mOK p (aS m, aB m, aSh m, aDg m + 1, aPr m, aW m, aPe m, aLu m, aRa m, aFe m, aSo m, aGo m, aFa m) := ⟨I.1, I.2.1, I.2.2.1, by show aDg m + 1 ≤ pC p; omega, I.2.2.2.2.1, I.2.2.2.2.2.1, I.2.2.2.2.2.2⟩
      have pk2 := m_pick (u := u) P I3 h25 h26 hD hKB X2 (by omega)
      have same : ∀ n, pkb p (aS m, aB m, aSh m, aDg m + 1, aPr m, aW m, aPe m, aLu m, aRa m, aFe m, aSo m, aGo m, aFa m) n = pkb p m n := by
        intro n
        induction n with
        | zero => rfl
        | succ n ih2 =>
          unfold pkb
          rw [ih2]
          rfl
      rw [same] at pk2
      obtain ⟨d16, d17, d, d23, e, f⟩ := mdig (u := u) P I hKB L L2 hc1 hc2 hu k.1 k.2.1 k.2.2 X b16 b17 b23
      have I2 : mOK p (digM LF LH p m (pkb p m 48 - 1)) := digM_ok P I k.1 k.2.1 k.2.2 (by omega)
      have e2 : aDg (digM LF LH p m (pkb p m 48 - 1)) = aDg m + 1 := rfl
      obtain ⟨f16, f17, fd, f23, e5, x⟩ := ih (digM LF LH p m (pkb p m 48 - 1)) n d16 d17 d d23 I2 (by rw [e2]; omega) (by omega) f
      refine ⟨f16, f17, fd, f23, ?_, x⟩
      refine (if_pos rfl).trans ?_
      refine (if_neg (by rw [h28, X.2.2.2.1]; exact nI_ge (a := aDg m) (b := pC p) (by omega) (by omega))).trans ?_
      rw [pk, z_b, pk2]
      refine (if_neg (show ¬ nI (pkb p m 48) - nI 1 = (-1 : Int32) by
        rw [z_sub (by omega)]
        show ¬ nI (pkb p m 48 - 1) = -nI 1
        rw [z_em (by omega) (by omega)]; omega)).trans ?_
      rw [z_b, z_sub (by omega)]
      rw [h25, h26] at *
      rw [e, z_b]
      exact e5
/-! the draw -/
def sd (x : Int32) : Int32 := x * (1103515245 : Int32) + (12345 : Int32)
def dv (x : Int32) : Nat := x.toBitVec.toNat / 65536 % 32768 % 16
theorem k_32767 : ∀ i, i < 32 → bt 32767 i = decide (i < 15) := by decide +kernel
theorem dr_x (x : Int32) : (x.toUInt32 >>> (((16 : Int32)).toUInt32 &&& Int32.toUInt32 31)).toInt32 &&& (32767 : Int32) = nI (x.toBitVec.toNat / 65536 % 32768) := by
  have h := pk_ushr x 16 16 (by decide)
  rw [pk_and _ (m := 32767) 15 (by decide), h]
theorem dr_m (x : Int32) : (x >>> ((16 : Int32) &&& 31)) &&& (32767 : Int32) = nI (x.toBitVec.toNat / 65536 % 32768) := by
  rw [← dr_x]
  apply b_ext
  intro i hi
  rw [b_and, b_and, k_32767 i hi]
  by_cases h : i < 15
  · have e1 : bt (x >>> ((16 : Int32) &&& 31)) i = if 16 + i < 32 then bt x (16 + i) else bt x 31 := b_sshr 16 (by decide) x hi
    have e2 : bt ((x.toUInt32 >>> (((16 : Int32)).toUInt32 &&& Int32.toUInt32 31)).toInt32) i = bt x (16 + i) := b_ushr 16 (by decide) x i
    rw [e1, e2, if_pos (by omega)]
  · simp [h]
theorem dr_16 (k : Nat) (h : k < 32768) : nI k - nI k / (16 : Int32) * (16 : Int32) = nI (k % 16) := pk_rem (d := 16) (by omega) (by omega) (by omega)
theorem m_draws (x : Int32) : f_X11_draws u x = some (nI (dv (sd x)), sd x) := by
  unfold f_X11_draws bX11_draws_0
  have e := dr_m (sd x)
  unfold sd at e ⊢
  rw [e, dr_16 _ (Nat.mod_lt _ (by decide))]
  rfl
end DGS2
