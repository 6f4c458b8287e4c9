/-! DIGGING: the two methods -/
def dW (S K : Nat → Nat) (w c : Nat) : Nat := if S c = 0 ∧ K c = 5 ∧ c / 8 < w then c / 8 else w
section XD
variable {u sh w : Nat} {dug prp fal : Int64} {a6 a7 c13 c16 bl : Nat → Int32} {S K B : Nat → Nat} {l12 l15 dg lg ra fe : Int32} {LF LH : (Nat → Int32) → Int32}
theorem x_dig (M : mS dug prp fal S) (E : kbA a6 a7 K B) (L : lawX l12 c13 LF) (L2 : lawX l15 c16 LH) (hu : 160 ≤ u) {c : Nat} (hc : c < 48) (hS : S c = 0 ∨ S c = 3) (hK : K c ≤ 5) (hB : B c ≤ 9) (hw : w ≤ 6) (a14 a17 : Nat → Int32) :
    ∃ r b14 b17, f_X3_breakOpen u (nI sh) dg lg (nI w) ra fe dug prp fal bl a6 a7 l12 c13 a14 l15 c16 a17 (nI c) = some (dg + 1, (if brl S B c = 0 then lg else lg + nI (brl S B c) * hrm LH S K B sh c), nI (dW S K w c), (if brl S B c = 0 then ra else ra + nI (brl S B c)), fe + nI (cntB (fl LF (digS1 S c) K B sh) 48), (dug ||| ((1 : Int64) <<< ((nI c).toInt64 &&& 63))) &&& (r ^^^ (-1)), (fal &&& (((1 : Int64) <<< ((nI c).toInt64 &&& 63)) ^^^ (-1))) ||| r, (if brl S B c = 0 then bl else upd bl (K c) (bl (K c) + nI (brl S B c))), b14, b17)
      ∧ mS ((dug ||| ((1 : Int64) <<< ((nI c).toInt64 &&& 63))) &&& (r ^^^ (-1))) prp ((fal &&& (((1 : Int64) <<< ((nI c).toInt64 &&& 63)) ^^^ (-1))) ||| r) (digS LF S K B sh c) := by
  have M1 := mS_dig1 M hc hS
  have T : ∀ (lg' ra' : Int32) (bl' g17 : Nat → Int32) (w' : Nat), ∃ r b14, bX3_breakOpen_141 u (nI sh) prp a6 a7 l12 c13 l15 c16 (dg + 1) lg' (nI w') ra' fe (dug ||| ((1 : Int64) <<< ((nI c).toInt64 &&& 63))) (fal &&& (((1 : Int64) <<< ((nI c).toInt64 &&& 63)) ^^^ (-1))) bl' a14 g17 = some (dg + 1, lg', nI w', ra', fe + nI (cntB (fl LF (digS1 S c) K B sh) 48), (dug ||| ((1 : Int64) <<< ((nI c).toInt64 &&& 63))) &&& (r ^^^ (-1)), (fal &&& (((1 : Int64) <<< ((nI c).toInt64 &&& 63)) ^^^ (-1))) ||| r, bl', b14, g17) ∧ lS r (fl LF (digS1 S c) K B sh) := by
    intro lg' ra' bl' g17 w'
    obtain ⟨r, b14, e, hr⟩ := x_doomed (sh := sh) M1.1 M1.2.1 E L hu a14
    refine ⟨r, b14, ?_, hr⟩
    unfold bX3_breakOpen_141
    rw [e, z_b]
    dsimp only
    rw [lS_cnt hr, z_b]
  have T2 : ∀ (lg' ra' : Int32) (bl' g17 : Nat → Int32), ∃ r b14, bX3_breakOpen_109 u (nI sh) prp a6 a7 l12 c13 l15 c16 (dg + 1) lg' (nI w) ra' fe (dug ||| ((1 : Int64) <<< ((nI c).toInt64 &&& 63))) (fal &&& (((1 : Int64) <<< ((nI c).toInt64 &&& 63)) ^^^ (-1))) bl' a14 g17 (nI c) (zB (S c == 0)) = some (dg + 1, lg', nI (dW S K w c), ra', fe + nI (cntB (fl LF (digS1 S c) K B sh) 48), (dug ||| ((1 : Int64) <<< ((nI c).toInt64 &&& 63))) &&& (r ^^^ (-1)), (fal &&& (((1 : Int64) <<< ((nI c).toInt64 &&& 63)) ^^^ (-1))) ||| r, bl', b14, g17) ∧ lS r (fl LF (digS1 S c) K B sh) := by
    intro lg' ra' bl' g17
    unfold bX3_breakOpen_109
    by_cases q : S c = 0
    · have e1 : ∀ X Y : Option (Int32 × Int32 × Int32 × Int32 × Int32 × Int64 × Int64 × (Nat → Int32) × (Nat → Int32) × (Nat → Int32)), (if zB (S c == 0) = (0 : Int32) then X else Y) = Y := fun X Y => if_neg (by simp [q]; decide)
      rw [e1, z_ki hc (by omega), z_cl (by omega), E.1 c hc]
      by_cases k5 : K c = 5
      · have e2 : ∀ X Y : Option (Int32 × Int32 × Int32 × Int32 × Int32 × Int64 × Int64 × (Nat → Int32) × (Nat → Int32) × (Nat → Int32)), (if nI (K c) = (5 : Int32) then X else Y) = X := fun X Y => if_pos (by rw [k5]; rfl)
        rw [e2]
        have e3 : (if nI c / (8 : Int32) < nI w then nI c / (8 : Int32) else nI w) = nI (dW S K w c) := by
          have e4 : nI c / (8 : Int32) = nI (c / 8) := pk_div (d := 8) (by omega) (by omega) (by omega)
          rw [e4]
          unfold dW
          by_cases z : c / 8 < w
          · refine (if_pos (nI_lt z (by omega))).trans ?_
            rw [if_pos ⟨q, k5, z⟩]
          · refine (if_neg (nI_nlt (a := c / 8) (b := w) (by omega) (by omega))).trans ?_
            rw [if_neg (fun h => z h.2.2)]
        rw [e3]
        exact T lg' ra' bl' g17 _
      · have e2 : ∀ X Y : Option (Int32 × Int32 × Int32 × Int32 × Int32 × Int64 × Int64 × (Nat → Int32) × (Nat → Int32) × (Nat → Int32)), (if nI (K c) = (5 : Int32) then X else Y) = Y := fun X Y => if_neg (by
          have : (nI (K c) = nI 5) = (K c = 5) := z_eq (by omega) (by omega)
          show ¬ nI (K c) = nI 5
          rw [this]; exact k5)
        rw [e2]
        have e3 : dW S K w c = w := by unfold dW; rw [if_neg (fun h => k5 h.2.1)]
        rw [e3]
        exact T lg' ra' bl' g17 _
    · have e1 : ∀ X Y : Option (Int32 × Int32 × Int32 × Int32 × Int32 × Int64 × Int64 × (Nat → Int32) × (Nat → Int32) × (Nat → Int32)), (if zB (S c == 0) = (0 : Int32) then X else Y) = X := fun X Y => if_pos (by rw [show (S c == 0) = false by simpa using q]; rfl)
      rw [e1]
      have e3 : dW S K w c = w := by unfold dW; rw [if_neg (fun h => q h.1)]
      rw [e3]
      exact T lg' ra' bl' g17 _
  unfold f_X3_breakOpen bX3_breakOpen_0
  have hS3 : S c ≤ 3 := by omega
  have l0 : ¬ nI c < (0 : Int32) := nI_pos (by omega)
  have l48 : nI c < (48 : Int32) := nI_lt (b := 48) hc (by omega)
  rw [x_whole M hc hS3, x_bars M E.2 hc hS3]
  have many : brl S B c ≤ 9 := by unfold brl; split <;> omega
  have ei : ∀ (P : Prop) [Decidable P] (X Y : Option (Int32 × Int32 × Int32 × Int32 × Int32 × Int64 × Int64 × (Nat → Int32) × (Nat → Int32) × (Nat → Int32))), P → (if P then X else Y) = X := fun P _ X Y h => if_pos h
  have en : ∀ (P : Prop) [Decidable P] (X Y : Option (Int32 × Int32 × Int32 × Int32 × Int32 × Int64 × Int64 × (Nat → Int32) × (Nat → Int32) × (Nat → Int32))), ¬ P → (if P then X else Y) = Y := fun P _ X Y h => if_neg h
  rw [en _ _ _ l0, ei _ _ _ l48, z_b, z_b]
  by_cases q : brl S B c = 0
  · obtain ⟨r, b14, e, hr⟩ := T2 lg ra bl a17
    refine ⟨r, b14, a17, ?_, mS_dig2 M1 hr⟩
    rw [ei _ _ _ (show nI (brl S B c) ≤ (0 : Int32) from nI_le (b := 0) (by omega) (by omega)), if_pos q, if_pos q, if_pos q]
    exact e
  · obtain ⟨b17, eh⟩ := x_harm (u := u) (sh := sh) M1.1 M1.2.1 E L2 hu hc a17
    rw [hrm_1] at eh
    obtain ⟨r, b14, e, hr⟩ := T2 (lg + nI (brl S B c) * hrm LH S K B sh c) (ra + nI (brl S B c)) (upd bl (K c) (bl (K c) + nI (brl S B c))) b17
    refine ⟨r, b14, b17, ?_, mS_dig2 M1 hr⟩
    rw [en _ _ _ (show ¬ nI (brl S B c) ≤ (0 : Int32) from nI_ge (a := 0) (by omega) (by omega)), if_neg q, if_neg q, if_neg q]
    rw [z_ki hc (by omega), z_cl (by omega), E.1 c hc, z_ki (by omega) (by omega), z_ki (by omega) (by omega), eh, z_b, z_cl (by omega)]
    exact e
end XD
section MD
variable {u W H sh w : Nat} {a7 a8 m13 m14 m15 : Nat → Int32} {S K B : Nat → Nat} {LF LH : (Nat → Int32) → Int32}
theorem m_dig1 (hW : W ≤ 8) (hH : H ≤ 6) (St : stOK W H S) (E : kbA a7 a8 K B) (L : lawM 0 m13 m14 m15 LF) (hc' : lcong LF) (hu : 160 ≤ u) {c : Nat} (hc : c < 48) (hg : inG W H c = true) {g : Nat → Int32} (A : sA g S) (hsh : g 69 = nI sh) (b16 b17 b23 : Nat → Int32) :
    ∃ d16 d17 d21 d23, bX11_digs_111 u (nI W) (nI H) a7 a8 m13 m14 m15 b16 b17 g b23 (nI c) = some (d16, d17, d21, d23) ∧ sA d21 (digS LF S K B sh c) ∧ d21 76 = g 76 + nI (cntB (fl LF (digS1 S c) K B sh) 48) ∧ ∀ k, 48 ≤ k → k ≠ 76 → d21 k = g k := by
  have St1 := stOK_dig1 St hg
  have A1 : sA (upd g c (1 : Int32)) (digS1 S c) := by
    intro k hk
    simp only [z_upd, digS1]
    by_cases e : k = c
    · rw [if_pos e, if_pos e]; rfl
    · rw [if_neg e, if_neg e]; exact A k hk
  have hsh1 : upd g c (1 : Int32) 69 = nI sh := by
    simp only [z_upd]
    rw [if_neg (by omega)]
    exact hsh
  obtain ⟨e16, e17, e23, e, h23⟩ := m_fallNow (u := u) hW hH A1 St1 E hsh1 L hc' hu b16 b17 b23
  have loop : ∀ j k, k + j = 48 → ∀ n g2, j < n → (∀ i, i < k → g2 i = nI (digS LF S K B sh c i)) → (∀ i, k ≤ i → i < 48 → g2 i = nI (digS1 S c i)) → ∃ d21, bX11_digs_134 u (nI W) (nI H) a7 a8 m13 m14 m15 n e16 e17 g2 e23 (nI k) = some (e16, e17, d21, e23) ∧ sA d21 (digS LF S K B sh c) ∧ ∀ i, 48 ≤ i → d21 i = g2 i := by
    intro j
    induction j with
    | zero =>
      intro k hk n g2 hn h1 _
      obtain ⟨n, rfl⟩ := z_suc hn
      have : k = 48 := by omega
      subst this
      exact ⟨g2, by rw [bX11_digs_134]; exact if_pos (by decide), h1, fun _ _ => rfl⟩
    | succ j ih =>
      intro k hk n g2 hn h1 h2
      obtain ⟨n, rfl⟩ := z_suc hn
      rw [bX11_digs_134]
      have e1 : nI k + (1 : Int32) = nI (k + 1) := nI_1 k
      have st : ∃ g3, (∀ i, i < k + 1 → g3 i = nI (digS LF S K B sh c i)) ∧ (∀ i, k + 1 ≤ i → i < 48 → g3 i = nI (digS1 S c i)) ∧ (∀ i, 48 ≤ i → g3 i = g2 i) ∧ (if (e23 k) = (0 : Int32) then (bX11_digs_156 u (nI W) (nI H) a7 a8 m13 m14 m15 (bX11_digs_134 u (nI W) (nI H) a7 a8 m13 m14 m15 n) e16 e17 g2 e23 (nI k)) else (bX11_digs_156 u (nI W) (nI H) a7 a8 m13 m14 m15 (bX11_digs_134 u (nI W) (nI H) a7 a8 m13 m14 m15 n) e16 e17 (upd g2 k (3 : Int32)) e23 (nI k))) = bX11_digs_134 u (nI W) (nI H) a7 a8 m13 m14 m15 n e16 e17 g3 e23 (nI (k + 1)) := by
        unfold bX11_digs_156
        rw [e1, h23 k (by omega)]
        cases hf : fl LF (digS1 S c) K B sh k with
        | false =>
          refine ⟨g2, ?_, fun i hi hj => h2 i (by omega) hj, fun _ _ => rfl, if_pos rfl⟩
          intro i hi
          by_cases z : i = k
          · subst z
            rw [h2 i (by omega) (by omega)]
            unfold digS
            rw [hf]
            rfl
          · exact h1 i (by omega)
        | true =>
          refine ⟨upd g2 k (3 : Int32), ?_, ?_, ?_, if_neg (by decide)⟩
          · intro i hi
            simp only [z_upd]
            by_cases z : i = k
            · subst z
              rw [if_pos rfl]
              unfold digS
              rw [hf]
              rfl
            · rw [if_neg z]; exact h1 i (by omega)
          · intro i hi hj
            simp only [z_upd]
            rw [if_neg (by omega)]
            exact h2 i (by omega) hj
          · intro i hi
            simp only [z_upd]
            rw [if_neg (by omega)]
      obtain ⟨g3, q1, q2, q3, q4⟩ := st
      obtain ⟨d21, f1, f2, f3⟩ := ih (k + 1) (by omega) n g3 (by omega) q1 q2
      refine ⟨d21, ?_, f2, fun i hi => by rw [f3 i hi, q3 i hi]⟩
      refine (if_neg (show ¬ (48 : Int32) ≤ nI k from nI_ge (a := k) (b := 48) (by omega) (by omega))).trans ?_
      rw [z_ki (by omega) (by omega), z_cl (by omega), z_ki (by omega) (by omega), q4]
      exact f1
  obtain ⟨d21, f1, f2, f3⟩ := loop 48 0 rfl u (upd (upd g c (1 : Int32)) 76 ((upd g c (1 : Int32)) 76 + nI (cntB (fl LF (digS1 S c) K B sh) 48))) (by omega) (fun i hi => absurd hi (Nat.not_lt_zero i)) (fun i _ hi => by
    simp only [z_upd]
    rw [if_neg (by omega)]
    exact A1 i hi)
  refine ⟨e16, e17, d21, e23, ?_, f2, ?_, ?_⟩
  · unfold bX11_digs_111
    rw [z_ki (by omega) (by omega), z_cl (by omega), e, z_b]
    exact f1
  · rw [f3 76 (by omega)]
    simp only [z_upd]
    rw [if_pos trivial, if_neg (by omega)]
  · intro k hk hk2
    rw [f3 k hk]
    simp only [z_upd]
    rw [if_neg hk2, if_neg (by omega)]
end MD
