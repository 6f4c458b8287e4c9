/-! THE STATE OF BOTH SIDES, over one picture -/
/-- pit, mine, the laws, lines of the book and the book, works and their mines, images: works, mine, mines of works -/
abbrev aT : Type := aP × aM × ((Nat → Int32) → Int32) × ((Nat → Int32) → Int32) × Nat × (Nat → Nat × Nat) × Nat × (Nat → aM) × Nat × (Nat → Nat) × (Nat → aM) × (Nat → Nat → aM)
def rS_P (S : aT) : aP := S.1
def rS_M (S : aT) : aM := S.2.1
def rS_F (S : aT) : (Nat → Int32) → Int32 := S.2.2.1
def rS_H (S : aT) : (Nat → Int32) → Int32 := S.2.2.2.1
def rS_L (S : aT) : Nat := S.2.2.2.2.1
def rS_B (S : aT) : Nat → Nat × Nat := S.2.2.2.2.2.1
def rS_W (S : aT) : Nat := S.2.2.2.2.2.2.1
def rS_Pa (S : aT) : Nat → aM := S.2.2.2.2.2.2.2.1
def rS_I (S : aT) : Nat := S.2.2.2.2.2.2.2.2.1
def rS_IW (S : aT) : Nat → Nat := S.2.2.2.2.2.2.2.2.2.1
def rS_IM (S : aT) : Nat → aM := S.2.2.2.2.2.2.2.2.2.2.1
def rS_IP (S : aT) : Nat → Nat → aM := S.2.2.2.2.2.2.2.2.2.2.2
/-- the class's mine at a place -/
def rZ_M (h : k_H) (q : Nat) (m : aM) : Prop := xMine m (h.2.1 q 10) (h.2.1 q 11) (h.2.1 q 12) (h.2.1 q 13) (h.2.1 q 14) (h.2.1 q 15) (h.2.1 q 16) (h.2.1 q 17) (h.2.2.1 q 3) (h.2.2.1 q 4) (h.2.2.1 q 5) (h.2.1 (q + 1)) (h.2.1 (q + 2)) (h.2.1 (q + 3)) (h.2.1 (q + 4))
def rZ_P (p : aP) (h : k_H) : Prop := pOK p ∧ xPit p (h.2.1 3 0) (h.2.1 3 1) (h.2.2.1 3 5) (h.2.2.1 3 6) (h.2.1 3 8) (h.2.1 3 10) (h.2.1 4) (h.2.1 5) (h.2.1 6) (h.2.1 7) (h.2.1 8) (h.2.1 9) ∧ mPit p (h.2.1 70 25) (h.2.1 70 26) (h.2.1 70 27) (h.2.1 70 28) (h.2.1 70 30) (h.2.1 77) (h.2.1 78) (h.2.1 79) (h.2.1 80)
def rZ_L (LF LH : (Nat → Int32) → Int32) (h : k_H) : Prop := lcong LF ∧ lcong LH ∧ lawX (h.2.1 17 2) (h.2.1 18) LF ∧ lawX (h.2.1 20 2) (h.2.1 21) LH ∧ lawM 0 (h.2.1 83) (h.2.1 84) (h.2.1 85) LF ∧ lawM 1 (h.2.1 83) (h.2.1 84) (h.2.1 85) LH
def rZ_N (p : aP) (m : aM) (h : k_H) : Prop := mOK p m ∧ rZ_M h 26 m ∧ mMine m (h.2.1 90)
/-- the book: lines (a column, what a tap said) -/
def rZ_B (L : Nat) (bk : Nat → Nat × Nat) (h : k_H) : Prop := L ≤ 8 ∧ h.2.1 58 3 = nI L ∧ h.2.1 70 54 = nI L ∧ (∀ i, i < L → (bk i).1 < 8 ∧ (bk i).2 ≤ 6 ∧ h.2.1 96 (2 * i) = nI (bk i).1 ∧ h.2.1 96 (2 * i + 1) = nI (bk i).2 ∧ h.2.1 59 (bk i).1 = nI (bk i).2) ∧ (∀ i j, i < L → j < L → (bk i).1 = (bk j).1 → i = j) ∧ ∀ x, x < 8 → (∀ i, i < L → (bk i).1 ≠ x) → h.2.1 59 x = -1
/-- the bytes that were fed -/
def rZ_T (h : k_H) : Prop := ∃ (N : Nat) (b : Nat → Nat), N ≤ 600 ∧ h.2.1 1 1 = nI N ∧ h.2.1 70 2 = nI N ∧ ∀ i, i < N → b i < 256 ∧ h.2.1 72 i = nI (b i) ∧ h.2.1 2 i = (nI (b i)).toInt8.toInt32
/-- refusals, the fault's place, refused steps -/
def rZ_R (h : k_H) : Prop := (∀ k, k < 3 → h.2.1 69 k = h.2.1 71 k) ∧ h.2.1 1 6 = h.2.1 70 8 ∧ h.2.1 0 14 = h.2.1 70 43
/-- works that can be undone -/
def rZ_W (p : aP) (W : Nat) (pa : Nat → aM) (h : k_H) : Prop := W ≤ 16 ∧ h.2.1 35 1 = nI W ∧ h.2.1 70 42 = nI W ∧ ∀ j, j < W → ∃ q, h.2.2.2 36 j = some q ∧ rZ_M h q (pa j) ∧ mMine (pa j) (fun k => h.2.1 92 (77 * j + k)) ∧ mOK p (pa j)
/-- images -/
def rZ_I (p : aP) (I : Nat) (iw : Nat → Nat) (im : Nat → aM) (ip : Nat → Nat → aM) (h : k_H) : Prop := I ≤ 3 ∧ h.2.1 35 5 = nI I ∧ h.2.1 70 65 = nI I ∧ ∀ i, i < I → iw i ≤ 16 ∧ h.2.1 39 i = nI (iw i) ∧ h.2.1 101 (1310 * i + 1309) = nI (iw i) ∧ mOK p (im i) ∧ (∃ q, h.2.2.2 37 i = some q ∧ rZ_M h q (im i) ∧ mMine (im i) (fun k => h.2.1 101 (1310 * i + k))) ∧
  ∀ j, j < iw i → ∃ q, h.2.2.2 38 (16 * i + j) = some q ∧ rZ_M h q (ip i j) ∧ mMine (ip i j) (fun k => h.2.1 101 (1310 * i + 77 + 77 * j + k)) ∧ mOK p (ip i j)
/-- the first 103 shapes -/
def rZ_sh : List k_Sh := shX ++ (L_M_34.drop 70 ++ [(4, 1, [])])
def rZ_C (h : k_H) : Prop := (∃ rest, h.1 = rZ_sh ++ rest) ∧ k_LP h ∧ h.2.2.2 41 0 = some 43 ∧ h.2.2.2 41 1 = some 48 ∧ h.2.2.2 41 2 = some 53
def Rel (S : aT) (h : k_H) : Prop := rZ_C h ∧ rZ_P (rS_P S) h ∧ rZ_L (rS_F S) (rS_H S) h ∧ rZ_N (rS_P S) (rS_M S) h ∧ rZ_B (rS_L S) (rS_B S) h ∧ rZ_T h ∧ rZ_R h ∧ rZ_W (rS_P S) (rS_W S) (rS_Pa S) h ∧ rZ_I (rS_P S) (rS_I S) (rS_IW S) (rS_IM S) (rS_IP S) h
theorem rZ_CX {h : k_H} (z : rZ_C h) : ∃ rest, h.1 = shX ++ rest := by
  obtain ⟨⟨rest, e⟩, -⟩ := z
  exact ⟨_, e.trans (List.append_assoc _ _ _)⟩
theorem rZ_CLS {h : k_H} (z : rZ_C h) : k_LS h := by
  obtain ⟨⟨rest, e⟩, -⟩ := z
  unfold k_LS
  rw [e]
  exact ⟨rfl, rfl, rfl, rfl⟩
