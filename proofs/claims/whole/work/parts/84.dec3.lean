/-! DECADES: the reference plays them -/
section MDEC
variable {u : Nat} {p : aP} {LF LH : (Nat → Int32) → Int32} {c25 c26 c27 c28 c30 : Int32} {a7 a8 a9 a10 m13 m14 m15 a20 : Nat → Int32}
theorem m_shS (P : pOK p) {m : aM} (I : mOK p m) (E : mPit p c25 c26 c27 c28 c30 a7 a8 a9 a10) (hu : 160 ≤ u) {g : Nat → Int32} (X : mMine m g) (b24 : Nat → Int32) : ∃ b d w, f_X11_next u c30 a9 a10 g b24 = some (b, d, w) ∧ mMine (shS p m) d := by
  obtain ⟨-, -, -, -, rfl, -, hPr, hOr⟩ := E
  have X0 := X
  obtain ⟨A, hb, h69, h70, h71, h74, h72, h73, h75, h76, hso, hgo, hfa⟩ := X
  unfold shS
  by_cases q1 : aSh m < 200
  · obtain ⟨d, w, e, ⟨r1, r2, r3, r4, r5⟩, r69, r70⟩ := m_next (u := u) (sh := aSh m) (wt := b24) P.2.2.2.2.1 hOr hPr (by omega) (fun k hk => Nat.le_trans (mOK_B P I hk) (by omega)) q1 h69 hb
    refine ⟨_, d, w, e, ?_⟩
    rw [if_pos q1]
    show mMine (shiftM p m) d
    refine ⟨?_, r1, r69, r70, ?_, ?_, ?_, ?_, ?_, ?_, ?_, ?_, ?_⟩
    · intro c hc; rw [r5 c (by omega)]; exact A c hc
    · rw [r5 71 (by omega)]; exact h71
    · rw [r5 74 (by omega)]; exact h74
    · rw [r4, h72]; rfl
    · rw [r5 73 (by omega)]; exact h73
    · rw [r5 75 (by omega)]; exact h75
    · rw [r5 76 (by omega)]; exact h76
    · intro k hk; rw [r5 (53 + k) (by omega)]; exact hso k hk
    · intro k hk
      rw [r2 k hk]
      show _ = esG (pT p) (pZ p) (pN p) (aSh m) (aB m) (aGo m) (pO p) k
      have cg : ∀ i, esG (pT p) (pZ p) (pN p) (aSh m) (aB m) (fun k => g (58 + k)) i k = esG (pT p) (pZ p) (pN p) (aSh m) (aB m) (aGo m) i k := by
        intro i
        induction i with
        | zero => exact hgo k hk
        | succ i ih =>
          unfold esG
          split
          · show esG _ _ _ _ _ (fun k => g (58 + k)) i k + _ = esG _ _ _ _ _ (aGo m) i k + _
            rw [ih]
          · exact ih
      exact cg _
    · intro j hj
      rw [r3 j hj]
      show _ = esF (pT p) (pZ p) (pN p) (aSh m) (aB m) (aFa m) (pO p) j
      rw [esF_at, esF_at, hfa j hj]
  · have hs := I.2.2.1.2
    refine ⟨nI 0, g, b24, ?_, by rw [if_neg q1]; exact X0⟩
    unfold f_X11_next bX11_next_0
    rw [h69]
    exact if_pos (show nI (aSh m) = (200 : Int32) by rw [show aSh m = 200 by omega]; rfl)
theorem m_dec (P : pOK p) (E : mPit p c25 c26 c27 c28 c30 a7 a8 a9 a10) (L : lawM 0 m13 m14 m15 LF) (L2 : lawM 1 m13 m14 m15 LH) (hc1 : lcong LF) (hc2 : lcong LH) (hu : 160 ≤ u) {q : Nat} (hq : q ≤ 16) {sf2 : Nat} (hs2 : sf2 ≤ 40) :
    ∀ (r j n : Nat) (m : aM) (k x : Int32) (b16 b17 g b23 b24 : Nat → Int32), j + r = sf2 → r < n → mOK p m → mMine m g →
      ∃ y d16 d17 d d23 d24, bX11_goesOn_17 u c25 c26 c27 c28 c30 a7 a8 a9 a10 m13 m14 m15 a20 n x k b16 b17 g b23 b24 (nI q) (nI sf2) (nI j) = some (y, (decG dv sd LF LH p q r m k x).2, d16, d17, d, d23, d24) ∧ mMine (decG dv sd LF LH p q r m k x).1 d := by
  intro r
  induction r with
  | zero =>
    intro j n m k x b16 b17 g b23 b24 hj hn I X
    obtain ⟨n, rfl⟩ := z_suc hn
    refine ⟨x, b16, b17, g, b23, b24, ?_, X⟩
    rw [bX11_goesOn_17]
    exact if_pos (nI_le (a := sf2) (b := j) (by omega) (by omega))
  | succ r ih =>
    intro j n m k x b16 b17 g b23 b24 hj hn I X
    obtain ⟨n, rfl⟩ := z_suc hn
    have hd16 := dv_lt (sd x)
    have hdc := I.2.2.2.1
    have hC := P.2.2.1.2
    have ej : nI j + (1 : Int32) = nI (j + 1) := nI_1 j
    have n1 : ¬ nI sf2 ≤ nI j := nI_ge (a := j) (b := sf2) (by omega) (by omega)
    have d3 : ∀ (Q : Prop) [Decidable Q] (A B : Option (Int32 × Int32 × (Nat → Int32) × (Nat → Int32) × (Nat → Int32) × (Nat → Int32) × (Nat → Int32))), Q → (if Q then A else B) = A := fun Q _ A B h => if_pos h
    have d4 : ∀ (Q : Prop) [Decidable Q] (A B : Option (Int32 × Int32 × (Nat → Int32) × (Nat → Int32) × (Nat → Int32) × (Nat → Int32) × (Nat → Int32))), ¬ Q → (if Q then A else B) = B := fun Q _ A B h => if_neg h
    rw [bX11_goesOn_17, d4 _ _ _ n1, m_draws, z_b]
    by_cases w : dv (sd x) < q
    · rw [decA dv sd w]
      rw [d4 _ _ _ (nI_ge (a := dv (sd x)) (b := q) w (by omega))]
      unfold bX11_goesOn_36 bX11_goesOn_53
      rw [d4 _ _ _ (show ¬ (1 : Int32) = 0 by decide)]
      obtain ⟨u', rfl⟩ := z_suc (show 0 < u by omega)
      rw [bX11_goesOn_57, d4 _ _ _ (show ¬ (1 : Int32) = 0 by decide)]
      unfold bX11_goesOn_106
      obtain ⟨b, d, w2, e, f⟩ := m_shS P I E hu X b24
      rw [e, z_b, ej]
      exact ih (j + 1) n (shS p m) (k + (1 : Int32)) (sd x) b16 b17 d b23 w2 (by omega) (by omega) (shS_ok P I) f
    · rw [decB dv sd w]
      rw [d3 _ _ _ (nI_le (a := q) (b := dv (sd x)) (by omega) (by omega))]
      unfold bX11_goesOn_36 bX11_goesOn_53
      rw [d3 _ _ _ (show (0 : Int32) = 0 from rfl)]
      obtain ⟨d16, d17, d, d23, e, f⟩ := m_digS (u := u) (a20 := a20) P E L L2 hc1 hc2 hu (k17 := bX11_goesOn_17 u c25 c26 c27 c28 c30 a7 a8 a9 a10 m13 m14 m15 a20 n) (x62 := sd x) (x63 := k + (0 : Int32)) (v2 := nI q) (v3 := nI sf2) (v4 := nI j) (b24 := b24) (pC p - aDg m) m u b16 b17 g b23 I (by omega) (by omega) X
      have I1 := (dgS_ok (LF := LF) (LH := LH) P (pC p - aDg m) m I (by omega)).1
      obtain ⟨b, d2, w2, e2, f2⟩ := m_shS P I1 E hu f b24
      have e3 : bX11_goesOn_57 u c25 c26 c27 c28 c30 a7 a8 a9 a10 m13 m14 m15 a20 (bX11_goesOn_17 u c25 c26 c27 c28 c30 a7 a8 a9 a10 m13 m14 m15 a20 n) u (sd x) (k + (0 : Int32)) b16 b17 g b23 b24 (nI q) (nI sf2) (nI j) (0 : Int32) = _ := e
      dsimp only
      rw [e3]
      unfold bX11_goesOn_106
      rw [e2, z_b, ej, show k + (0 : Int32) = k from Int32.add_zero k]
      exact ih (j + 1) n (shS p (dgS LF LH p (pC p - aDg m) m)) k (sd x) d16 d17 d2 d23 w2 (by omega) (by omega) (shS_ok P I1) f2
end MDEC
