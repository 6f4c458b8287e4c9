/-! TEXT CONSTANTS: String.length, String.charAt of the claim's own constants (places 1000000 + i; their bytes' rows 2000000 + i) -/
def k_bs (i : Nat) : List Int32 := k_sb.getD i []
def k_ch (i j : Nat) : Int32 := (k_bs i).getD j 0 &&& 255
theorem k_sb_at {i : Nat} (hi : i < 31) : k_sb[i]? = some (k_bs i) := by
  have h : i < k_sb.length := hi
  unfold k_bs
  rw [List.getD_eq_getElem?_getD, List.getElem?_eq_getElem h]; rfl
theorem k_bs_len : ∀ i, i < 31 → (k_bs i).length < 1000 := by decide +kernel
section STR
variable {X : k_X} {cc : ByteArray} {own : String} {nL cells slots : Nat} {Q : State → Prop} {ad : Nat → Nat} {h : k_H} {pc pc' : Nat} {lv : List (Option Value)} {st : List Value} {ix : Nat}
theorem r_nret (C : k_C X cc own nL ad) {x : Int32} {ty : FieldType} (hr : X.meth.sig.returnType = some ty) (hx : narrow ty (.int x) = .int x) (hd : decode cc pc = .ok (.ireturn, 1)) : k_W X nL 0 0 (k_Q X ad (some (.int x)) h) ad h pc lv [.int x] :=
  fun _ _ _ hw hP _ hS _ => W.zret C.1 C.2.1 hr hx (fun _ ht _ => ⟨rfl, hw, by rw [ht]; exact hP, hS.F ht⟩) hS.2.2 hd C.2.2.2.2.2.2.2.1
theorem r_i2c (C : k_C X cc own nL ad) {x : Int32} (hd : decode cc pc = .ok (.i2c, 1)) (hn : pc + 1 = pc') (k : k_W X nL cells slots Q ad h pc' lv (.int ((x.toUInt32 % 65536).toInt32) :: st)) : k_W X nL cells slots Q ad h pc lv (.int x :: st) := by
  subst hn
  exact fun H locs ls hw hP hD hS hl => lv_i2c C.1 C.2.1 hd rfl (k H locs ls hw hP hD hS hl)
theorem r_gsC (C : k_C X cc own nL ad) (hd : decode cc pc = .ok (.getstatic ix, 3)) (hn : pc + 3 = pc') (hl : Cond.fieldLink own ix "java/lang/String" "COMPACT_STRINGS" "Z" ∈ k_tb) (k : k_W X nL cells slots Q ad h pc' lv (.int 1 :: st)) : k_W X nL cells slots Q ad h pc lv st := by
  subst hn
  exact fun H locs ls hw hP hD hS hll => va_gets C.1 C.2.1 C.2.2.2.2.2.2.2.2.2.2.2.2.1 hS C.2.2.2.1 (C.2.2.2.2.1 _ hl) (fun _ h9 => h9) hd (k H locs ls hw hP hD hS hll)
theorem r_gsS (C : k_C X cc own nL ad) (hd : decode cc pc = .ok (.getstatic ix, 3)) (hn : pc + 3 = pc') (hl : Cond.fieldLink own ix "LullabyPit$Survey" "STEPS" "[I" ∈ k_tb) (k : k_W X nL cells slots Q ad h pc' lv (.ref 1000100 :: st)) : k_W X nL cells slots Q ad h pc lv st := by
  subst hn
  exact fun H locs ls hw hP hD hS hll => va_gets C.1 C.2.1 C.2.2.2.2.2.2.2.2.2.2.2.1.1 hS C.2.2.2.1 (C.2.2.2.2.1 _ hl) (fun _ h9 => h9) hd (k H locs ls hw hP hD hS hll)
theorem r_gsF (C : k_C X cc own nL ad) (hd : decode cc pc = .ok (.getstatic ix, 3)) (hn : pc + 3 = pc') (hl : Cond.fieldLink own ix "jdk/internal/util/Preconditions" "SIOOBE_FORMATTER" "Ljava/util/function/BiFunction;" ∈ k_tb) (k : k_W X nL cells slots Q ad h pc' lv (.null :: st)) (k2 : k_W X nL cells slots Q ad h pc' lv (.ref 1000200 :: st)) : k_W X nL cells slots Q ad h pc lv st := by
  subst hn
  intro H locs ls hw hP hD hS hll
  rcases C.2.2.2.2.2.2.2.2.2.2.2.2.2.2.2.1 with z | z
  · exact va_gets C.1 C.2.1 z hS C.2.2.2.1 (C.2.2.2.2.1 _ hl) (fun _ h9 => h9) hd (k H locs ls hw hP hD hS hll)
  · exact va_gets C.1 C.2.1 z hS C.2.2.2.1 (C.2.2.2.2.1 _ hl) (fun _ h9 => h9) hd (k2 H locs ls hw hP hD hS hll)
theorem r_steps (C : k_C X cc own nL ad) {i : Int32} {j : Nat} (hd : decode cc pc = .ok (.iaload, 1)) (hn : pc + 1 = pc') (hin : vp_in i 4) (hj : i.toNatClampNeg = j) (k : k_W X nL cells slots Q ad h pc' lv (.int (k_stp.getD j 0) :: st)) : k_W X nL cells slots Q ad h pc lv (.int i :: .ref 1000100 :: st) := by
  subst hn; subst hj
  exact fun H locs ls hw hP hD hS hll => va_ti C.1 C.2.1 C.2.2.2.2.2.2.2.2.2.2.2.1.2 hS hin rfl hd (k H locs ls hw hP hD hS hll)
theorem r_stepsL (C : k_C X cc own nL ad) (hd : decode cc pc = .ok (.arraylength, 1)) (hn : pc + 1 = pc') (k : k_W X nL cells slots Q ad h pc' lv (.int 4 :: st)) : k_W X nL cells slots Q ad h pc lv (.ref 1000100 :: st) := by
  subst hn
  exact fun H locs ls hw hP hD hS hll => va_tlen C.1 C.2.1 C.2.2.2.2.2.2.2.2.2.2.2.1.2 hS rfl hd (k H locs ls hw hP hD hS hll)
variable {i : Nat}
theorem r_strC (C : k_C X cc own nL ad) (hi : i < 31) (hd : decode cc pc = .ok (.getfield ix, 3)) (hn : pc + 3 = pc') (hl : Cond.fieldLink own ix "java/lang/String" "coder" "B" ∈ k_tb) (k : k_W X nL cells slots Q ad h pc' lv (.int 0 :: st)) : k_W X nL cells slots Q ad h pc lv (.ref (1000000 + i) :: st) := by
  subst hn
  exact fun H locs ls hw hP hD hS hll => vk_getf C.1 C.2.1 (C.2.2.2.2.2.2.2.2.1 i _ (k_sb_at hi)).2.1 hS C.2.2.2.1 (C.2.2.2.2.1 _ hl) (fun _ h9 => h9) hd (k H locs ls hw hP hD hS hll)
theorem r_strV (C : k_C X cc own nL ad) (hi : i < 31) (hd : decode cc pc = .ok (.getfield ix, 3)) (hn : pc + 3 = pc') (hl : Cond.fieldLink own ix "java/lang/String" "value" "[B" ∈ k_tb) (k : k_W X nL cells slots Q ad h pc' lv (.ref (2000000 + i) :: st)) : k_W X nL cells slots Q ad h pc lv (.ref (1000000 + i) :: st) := by
  subst hn
  exact fun H locs ls hw hP hD hS hll => vk_getf C.1 C.2.1 (C.2.2.2.2.2.2.2.2.1 i _ (k_sb_at hi)).2.2.1 hS C.2.2.2.1 (C.2.2.2.2.1 _ hl) (fun _ h9 => h9) hd (k H locs ls hw hP hD hS hll)
theorem r_strL (C : k_C X cc own nL ad) (hi : i < 31) (hd : decode cc pc = .ok (.arraylength, 1)) (hn : pc + 1 = pc') (k : k_W X nL cells slots Q ad h pc' lv (.int (nI (k_bs i).length) :: st)) : k_W X nL cells slots Q ad h pc lv (.ref (2000000 + i) :: st) := by
  subst hn
  exact fun H locs ls hw hP hD hS hll => va_tlen C.1 C.2.1 (C.2.2.2.2.2.2.2.2.1 i _ (k_sb_at hi)).2.2.2 hS rfl hd (k H locs ls hw hP hD hS hll)
theorem r_strB (C : k_C X cc own nL ad) (hi : i < 31) {x : Int32} (hin : vp_in x (k_bs i).length) (hd : decode cc pc = .ok (.baload, 1)) (hn : pc + 1 = pc') (k : k_W X nL cells slots Q ad h pc' lv (.int ((k_bs i).getD x.toNatClampNeg 0) :: st)) : k_W X nL cells slots Q ad h pc lv (.int x :: .ref (2000000 + i) :: st) := by
  subst hn
  exact fun H locs ls hw hP hD hS hll => va_tb C.1 C.2.1 (C.2.2.2.2.2.2.2.2.1 i _ (k_sb_at hi)).2.2.2 hS hin rfl hd (k H locs ls hw hP hD hS hll)
theorem r_ldcS (C : k_C X cc own nL ad) {tx : String} (hq : k_st[i]? = some (own, ix, tx)) (hd : decode cc pc = .ok (.ldc ix, 2)) (hn : pc + 2 = pc') (k : k_W X nL cells slots Q ad h pc' lv (.ref (1000000 + i) :: st)) : k_W X nL cells slots Q ad h pc lv st := by
  subst hn
  exact fun H locs ls hw hP hD hS hll => va_ldcS C.1 C.2.1 C.2.2.2.1 (C.2.2.2.2.2.2.2.2.2.1 i _ hq) hd (k H locs ls hw hP hD hS hll)
end STR
