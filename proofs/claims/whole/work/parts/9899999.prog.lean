/-! WORK: programs in the form that both runs want -/
section STX
variable {p : aP}
def tN (x : Int32) : Nat := x.toBitVec.toNat
theorem tN_e (x : Int32) : x = nI (tN x) := by
  unfold tN
  apply Int32.toBitVec_inj.mp
  show _ = BitVec.ofNat 32 _
  simp
theorem nI_w (v : Nat) : nI (v + 4294967296) = nI v := by
  apply Int32.toBitVec_inj.mp
  show BitVec.ofNat 32 (v + 4294967296) = BitVec.ofNat 32 v
  apply BitVec.eq_of_toNat_eq
  rw [BitVec.toNat_ofNat, BitVec.toNat_ofNat]
  omega
theorem prog_x {k : Nat} {Q A I : Nat → Nat} {x1 x2 x3 s : Nat → Int32} (PR : PRG 0 k Q A I x1 x2 x3 s) : ∃ Q' A' I' : Nat → Nat, (∀ j, j < 30 → x1 j = nI (Q' j)) ∧ (∀ j, j < 30 → x2 j = nI (A' j)) ∧ (∀ j, j < 30 → x3 j = nI (I' j)) ∧ RE 0 k Q A I Q' A' I' := by
  refine ⟨fun j => if j < k then Q j else tN (x1 j), fun j => if j < k ∧ (Q j ≤ 1 ∨ Q j = 4 ∨ Q j = 5) then A j else tN (x2 j), fun j => if j < k ∧ (Q j = 4 ∨ Q j = 5) then I j else tN (x3 j), fun j _ => ?_, fun j _ => ?_, fun j _ => ?_, fun j h1 h2 => ⟨if_pos h2, fun h => if_pos ⟨h2, Or.inl h⟩, fun h => ⟨if_pos ⟨h2, Or.inr h⟩, if_pos ⟨h2, h⟩⟩⟩⟩
  · show x1 j = nI (if j < k then Q j else tN (x1 j))
    by_cases z : j < k
    · rw [if_pos z]; exact (PR j (Nat.zero_le j) z).2.1
    · rw [if_neg z]; exact tN_e _
  · show x2 j = nI (if j < k ∧ (Q j ≤ 1 ∨ Q j = 4 ∨ Q j = 5) then A j else tN (x2 j))
    by_cases z : j < k ∧ (Q j ≤ 1 ∨ Q j = 4 ∨ Q j = 5)
    · rw [if_pos z]
      obtain ⟨-, -, -, g1, g4, g5⟩ := PR j (Nat.zero_le j) z.1
      rcases z.2 with h | h | h
      · exact (g1 h).1
      · exact (g4 h).1
      · exact (g5 h).1
    · rw [if_neg z]; exact tN_e _
  · show x3 j = nI (if j < k ∧ (Q j = 4 ∨ Q j = 5) then I j else tN (x3 j))
    by_cases z : j < k ∧ (Q j = 4 ∨ Q j = 5)
    · rw [if_pos z]
      obtain ⟨-, -, -, g1, g4, g5⟩ := PR j (Nat.zero_le j) z.1
      rcases z.2 with h | h
      · exact (g4 h).2.2.1
      · exact (g5 h).2.2.1
    · rw [if_neg z]; exact tN_e _
theorem prog_m {k : Nat} {Q A I : Nat → Nat} {x1 x2 x3 s st : Nat → Int32} (PR : PRG 0 k Q A I x1 x2 x3 s) (hc : ∀ j, j < 3 * k → st j = s j) : ∃ Q' A' I' : Nat → Nat, stR Q' A' I' 30 st ∧ RE 0 k Q A I Q' A' I' := by
  refine ⟨fun j => if j < k then Q j else tN (st (3 * j)) + 4294967296, fun j => if j < k ∧ (Q j ≤ 1 ∨ Q j = 4 ∨ Q j = 5) then A j else tN (st (3 * j + 1)), fun j => if j < k ∧ (Q j = 4 ∨ Q j = 5) then I j else tN (st (3 * j + 2)), fun j _ => ⟨?_, ?_, ?_⟩, fun j h1 h2 => ⟨if_pos h2, fun h => if_pos ⟨h2, Or.inl h⟩, fun h => ⟨if_pos ⟨h2, Or.inr h⟩, if_pos ⟨h2, h⟩⟩⟩⟩
  · show st (3 * j) = nI (if j < k then Q j else tN (st (3 * j)) + 4294967296)
    by_cases z : j < k
    · rw [if_pos z, hc _ (by omega)]; exact (PR j (Nat.zero_le j) z).2.2.1
    · rw [if_neg z, nI_w]; exact tN_e _
  · show st (3 * j + 1) = nI (if j < k ∧ (Q j ≤ 1 ∨ Q j = 4 ∨ Q j = 5) then A j else tN (st (3 * j + 1)))
    by_cases z : j < k ∧ (Q j ≤ 1 ∨ Q j = 4 ∨ Q j = 5)
    · rw [if_pos z, hc _ (by omega)]
      obtain ⟨-, -, -, g1, g4, g5⟩ := PR j (Nat.zero_le j) z.1
      rcases z.2 with h | h | h
      · exact (g1 h).2
      · exact (g4 h).2.1
      · exact (g5 h).2.1
    · rw [if_neg z]; exact tN_e _
  · show st (3 * j + 2) = nI (if (if j < k then Q j else tN (st (3 * j)) + 4294967296) = 5 then 3 * (j + 1 + (if j < k ∧ (Q j = 4 ∨ Q j = 5) then I j else tN (st (3 * j + 2)))) else (if j < k ∧ (Q j = 4 ∨ Q j = 5) then I j else tN (st (3 * j + 2))))
    by_cases z : j < k
    · rw [if_pos z]
      obtain ⟨-, -, -, g1, g4, g5⟩ := PR j (Nat.zero_le j) z
      by_cases h5 : Q j = 5
      · rw [if_pos h5, if_pos ⟨z, Or.inr h5⟩, hc _ (by omega)]; exact (g5 h5).2.2.2
      · rw [if_neg h5]
        by_cases h4 : Q j = 4
        · rw [if_pos ⟨z, Or.inl h4⟩, hc _ (by omega)]; exact (g4 h4).2.2.2
        · rw [if_neg (fun w => by rcases w.2 with w | w; (· exact h4 w); (· exact h5 w))]; exact tN_e _
    · rw [if_neg z, if_neg (by omega), if_neg (fun w => z w.1)]; exact tN_e _
end STX
