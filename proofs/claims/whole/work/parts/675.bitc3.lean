/-! HOW MANY BITS: the sum of the bytes -/
theorem fd {a b k : Nat} (h : a < k) (hk : 0 < k) : (a + k * b) / k = b := by
  rw [Nat.add_mul_div_left _ _ hk, Nat.div_eq_of_lt h, Nat.zero_add]
theorem iS8 {x : Int64} (h : uN x + uN x / 256 < 18446744073709551616) : uN (iS 8 x) = uN x + uN x / 256 := by
  unfold iS
  rw [uN_addS (by rw [uS8]; exact h), uS8]
theorem iS16 {x : Int64} (h : uN x + uN x / 65536 < 18446744073709551616) : uN (iS 16 x) = uN x + uN x / 65536 := by
  unfold iS
  rw [uN_addS (by rw [uS16]; exact h), uS16]
theorem iS32 {x : Int64} (h : uN x + uN x / 4294967296 < 18446744073709551616) : uN (iS 32 x) = uN x + uN x / 4294967296 := by
  unfold iS
  rw [uN_addS (by rw [uS32]; exact h), uS32]
set_option maxHeartbeats 60000 in
theorem fo1 {x r0 y : Nat} (h0 : r0 ≤ 8) (e : x = r0 + 256 * y) : x / 256 = y := by rw [e]; exact fd (by omega) (by omega)
set_option maxHeartbeats 60000 in
theorem fo2 {x r0 r1 r2 r3 r4 r5 r6 r7 : Nat} (e : x = r0 + 256 * (r1 + 256 * (r2 + 256 * (r3 + 256 * (r4 + 256 * (r5 + 256 * (r6 + 256 * (r7 + 256 * 0)))))))) : x + (r1 + 256 * (r2 + 256 * (r3 + 256 * (r4 + 256 * (r5 + 256 * (r6 + 256 * (r7 + 256 * 0))))))) = ((r0 + r1) + 256 * (r1 + r2)) + 65536 * ((r2 + r3) + 256 * (r3 + r4) + 65536 * ((r4 + r5) + 256 * (r5 + r6) + 65536 * ((r6 + r7) + 256 * r7))) := by omega
set_option maxHeartbeats 60000 in
theorem fo3 {a b c d : Nat} (ha : a < 65536) : (a + 65536 * (b + 65536 * (c + 65536 * d))) / 65536 = b + 65536 * (c + 65536 * d) := fd ha (by omega)
set_option maxHeartbeats 60000 in
theorem fo4 {a b c d : Nat} : a + 65536 * (b + 65536 * (c + 65536 * d)) + (b + 65536 * (c + 65536 * d)) = (a + b + 65536 * (b + c)) + 4294967296 * (c + d + 65536 * d) := by omega
set_option maxHeartbeats 60000 in
theorem fo5 {a b : Nat} (ha : a < 4294967296) : (a + 4294967296 * b) / 4294967296 = b := fd ha (by omega)
set_option maxHeartbeats 60000 in
theorem fo6 {a b c d : Nat} : (a + b + 65536 * (b + c)) + 4294967296 * (c + d + 65536 * d) + (c + d + 65536 * d) = (a + b + c + d) + 128 * (512 * (b + c + d) + 33554432 * (c + d + 65536 * d)) := by omega
set_option maxHeartbeats 60000 in
theorem fo7 {r0 r1 r2 r3 r4 r5 r6 r7 : Nat} : ((r0 + r1) + 256 * (r1 + r2)) + ((r2 + r3) + 256 * (r3 + r4)) + ((r4 + r5) + 256 * (r5 + r6)) + ((r6 + r7) + 256 * r7) = (r0 + r1 + r2 + r3 + r4 + r5 + r6 + r7) + 128 * (2 * (r1 + r2 + r3 + r4 + r5 + r6 + r7)) := by omega
theorem fo8 {S A B n : Nat} (h : S < 128) (e : n = (S + 128 * A) + 128 * B) : n % 128 = S := by omega
set_option maxHeartbeats 60000 in
theorem fold4 {x : Int64} {a b c d : Nat} (hA : a ≤ 4112) (hB : b ≤ 4112) (hC : c ≤ 4112) (hD : d ≤ 4112) (a3 : uN (iS 8 x) = a + 65536 * (b + 65536 * (c + 65536 * d))) : uN (iS 32 (iS 16 (iS 8 x))) = (a + b + c + d) + 128 * (512 * (b + c + d) + 33554432 * (c + d + 65536 * d)) := by
  have b1 : uN (iS 8 x) / 65536 = b + 65536 * (c + 65536 * d) := by rw [a3]; exact fo3 (by omega)
  have b2 : uN (iS 16 (iS 8 x)) = (a + b + 65536 * (b + c)) + 4294967296 * (c + d + 65536 * d) := by
    rw [iS16 (by rw [b1, a3, fo4]; omega), b1, a3, fo4]
  have c1 : uN (iS 16 (iS 8 x)) / 4294967296 = c + d + 65536 * d := by rw [b2]; exact fo5 (by omega)
  rw [iS32 (by rw [c1, b2, fo6]; omega), c1, b2, fo6]
theorem fo9 {a b c : Nat} (ha : a ≤ 8) (hb : b ≤ 8) (hc : c ≤ 8) : (a + b) + 256 * (b + c) ≤ 4112 := by omega
theorem fo9' {a b : Nat} (ha : a ≤ 8) (hb : b ≤ 8) : (a + b) + 256 * b ≤ 4112 := by omega
theorem fo10 {a b c d : Nat} (hA : a ≤ 4112) (hB : b ≤ 4112) (hC : c ≤ 4112) (hD : d ≤ 4112) : a + 65536 * (b + 65536 * (c + 65536 * d)) < 18446744073709551616 := by omega
theorem fo11 {r0 r1 r2 r3 r4 r5 r6 r7 : Nat} (h0 : r0 ≤ 8) (h1 : r1 ≤ 8) (h2 : r2 ≤ 8) (h3 : r3 ≤ 8) (h4 : r4 ≤ 8) (h5 : r5 ≤ 8) (h6 : r6 ≤ 8) (h7 : r7 ≤ 8) : r0 + r1 + r2 + r3 + r4 + r5 + r6 + r7 < 128 := by omega
set_option maxHeartbeats 60000 in
theorem fold8 {x : Int64} {r0 r1 r2 r3 r4 r5 r6 r7 : Nat} (h0 : r0 ≤ 8) (h1 : r1 ≤ 8) (h2 : r2 ≤ 8) (h3 : r3 ≤ 8) (h4 : r4 ≤ 8) (h5 : r5 ≤ 8) (h6 : r6 ≤ 8) (h7 : r7 ≤ 8)
    (e : uN x = r0 + 256 * (r1 + 256 * (r2 + 256 * (r3 + 256 * (r4 + 256 * (r5 + 256 * (r6 + 256 * (r7 + 256 * 0)))))))) : uN (iS 32 (iS 16 (iS 8 x))) % 128 = r0 + r1 + r2 + r3 + r4 + r5 + r6 + r7 := by
  have a1 := fo1 h0 e
  have a2 := fo2 e
  have l := fo10 (fo9 h0 h1 h2) (fo9 h2 h3 h4) (fo9 h4 h5 h6) (fo9' h6 h7)
  have a3 : uN (iS 8 x) = ((r0 + r1) + 256 * (r1 + r2)) + 65536 * ((r2 + r3) + 256 * (r3 + r4) + 65536 * ((r4 + r5) + 256 * (r5 + r6) + 65536 * ((r6 + r7) + 256 * r7))) := by
    rw [iS8 (by rw [a1, a2]; exact l), a1, a2]
  exact fo8 (fo11 h0 h1 h2 h3 h4 h5 h6 h7) ((fold4 (fo9 h0 h1 h2) (fo9 h2 h3 h4) (fo9 h4 h5 h6) (fo9' h6 h7) a3).trans (congrArg (fun t => t + _) fo7))
set_option maxHeartbeats 60000 in
theorem foz (z : Int64) : z.toInt32 &&& 127 = nI (uN z % 128) := by
  have e9 : z.toInt32.toBitVec.toNat = uN z % 4294967296 := by
    rw [Int64.toBitVec_toInt32]
    rw [BitVec.signExtend_eq_setWidth_of_le _ (by omega), BitVec.toNat_setWidth, show (2 : Nat) ^ 32 = 4294967296 from rfl]
    exact congrArg (fun t => t % 4294967296) (rfl : z.toBitVec.toNat = uN z)
  rw [pk_and z.toInt32 (m := 127) 7 (by decide), e9, show (2 : Nat) ^ 7 = 128 from rfl, Nat.mod_mod_of_dvd (uN z) (show 128 ∣ 4294967296 from ⟨33554432, by omega⟩)]
set_option maxHeartbeats 60000 in
theorem mpB8 (g : Nat → Nat) (M : Nat) : mpB g 8 M = g (M % 256) + 256 * (g (M / 256 % 256) + 256 * (g (M / 256 / 256 % 256) + 256 * (g (M / 256 / 256 / 256 % 256) + 256 * (g (M / 256 / 256 / 256 / 256 % 256) + 256 * (g (M / 256 / 256 / 256 / 256 / 256 % 256) + 256 * (g (M / 256 / 256 / 256 / 256 / 256 / 256 % 256) + 256 * (g (M / 256 / 256 / 256 / 256 / 256 / 256 / 256 % 256) + 256 * 0))))))) := rfl
theorem pcn0 (M : Nat) : pcn M (8 * 0) = 0 := rfl
theorem pc64 (v : Int64) : nsm (fun k => if lb v k then 1 else 0) 64 = pcn (uN v) (8 * (7 + 1)) := by
  unfold pcn
  exact nsm_cong (fun k _ => rfl)
set_option maxHeartbeats 60000 in
theorem pcn64 (M : Nat) : pcn M (8 * (7 + 1)) = bc3 (M % 256) + (bc3 (M / 256 % 256) + (bc3 (M / 256 / 256 % 256) + (bc3 (M / 256 / 256 / 256 % 256) + (bc3 (M / 256 / 256 / 256 / 256 % 256) + (bc3 (M / 256 / 256 / 256 / 256 / 256 % 256) + (bc3 (M / 256 / 256 / 256 / 256 / 256 / 256 % 256) + (bc3 (M / 256 / 256 / 256 / 256 / 256 / 256 / 256 % 256) + 0))))))) := by
  have p : ∀ y, bc3 (y % 256) = pcn (y % 256) 8 := fun y => bc3_ok _ (Nat.mod_lt y (by decide))
  rw [pcn_8, pcn_8 6, pcn_8 5, pcn_8 4, pcn_8 3, pcn_8 2, pcn_8 1, show pcn (M / 256 / 256 / 256 / 256 / 256 / 256 / 256) (8 * 1) = _ from pcn_8 0 (M / 256 / 256 / 256 / 256 / 256 / 256 / 256), pcn0]
  simp only [p]
set_option maxHeartbeats 60000 in
theorem bitc {u : Nat} (v : Int64) : f_J13_bitCount_95d88 u v = some (nI (nsm (fun k => if lb v k then 1 else 0) 64)) := by
  have r8 : ∀ y, bc3 (y % 256) ≤ 8 := fun y => (bc_all _ (Nat.mod_lt y (by decide))).2.2.2.2.2
  have e := bcs3 v
  rw [mpB8] at e
  rw [bitc_eq, foz, fold8 (r8 _) (r8 _) (r8 _) (r8 _) (r8 _) (r8 _) (r8 _) (r8 _) e, pc64, pcn64]
  exact congrArg (fun t => some (nI t)) (by omega)
