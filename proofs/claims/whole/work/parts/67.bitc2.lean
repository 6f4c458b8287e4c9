/-! HOW MANY BITS: the long's -/
def i1 (v : Int64) : Int64 := v - ((v.toUInt64 >>> (((1 : Int32)).toInt64.toUInt64 &&& Int64.toUInt64 63)).toInt64 &&& (6148914691236517205 : Int64))
def i2 (v : Int64) : Int64 := (v &&& (3689348814741910323 : Int64)) + ((v.toUInt64 >>> (((2 : Int32)).toInt64.toUInt64 &&& Int64.toUInt64 63)).toInt64 &&& (3689348814741910323 : Int64))
def i3 (v : Int64) : Int64 := (v + (v.toUInt64 >>> (((4 : Int32)).toInt64.toUInt64 &&& Int64.toUInt64 63)).toInt64) &&& (1085102592571150095 : Int64)
def iS (k : Int32) (v : Int64) : Int64 := v + (v.toUInt64 >>> (k.toInt64.toUInt64 &&& Int64.toUInt64 63)).toInt64
theorem bitc_eq (u : Nat) (v : Int64) : f_J13_bitCount_95d88 u v = some ((iS 32 (iS 16 (iS 8 (i3 (i2 (i1 v)))))).toInt32 &&& 127) := rfl
theorem uN_and (x y : Int64) : uN (x &&& y) = uN x &&& uN y := by
  show (x &&& y).toBitVec.toNat = x.toBitVec.toNat &&& y.toBitVec.toNat
  rw [Int64.toBitVec_and, BitVec.toNat_and]
theorem uN_sub {x y : Int64} (h : uN y ≤ uN x) : uN (x - y) = uN x - uN y := by
  have e := uN_add (x - y) y
  have e2 : x - y + y = x := Int64.sub_add_cancel x y
  rw [e2] at e
  have a := uN_lt x
  have b := uN_lt y
  have c := uN_lt (x - y)
  omega
theorem uN_addS {x y : Int64} (h : uN x + uN y < 18446744073709551616) : uN (x + y) = uN x + uN y := by
  rw [uN_add, Nat.mod_eq_of_lt h]
theorem uN_t (x : Int64) (k : Nat) : (uN x).testBit k = lb x k := rfl
theorem uS1 (v : Int64) : uN ((v.toUInt64 >>> (((1 : Int32)).toInt64.toUInt64 &&& Int64.toUInt64 63)).toInt64) = uN v / 2 := uN_sk (k := 1) v (by decide)
theorem uS2 (v : Int64) : uN ((v.toUInt64 >>> (((2 : Int32)).toInt64.toUInt64 &&& Int64.toUInt64 63)).toInt64) = uN v / 4 := uN_sk (k := 2) v (by decide)
theorem uS4 (v : Int64) : uN ((v.toUInt64 >>> (((4 : Int32)).toInt64.toUInt64 &&& Int64.toUInt64 63)).toInt64) = uN v / 16 := uN_sk (k := 4) v (by decide)
theorem uS8 (v : Int64) : uN ((v.toUInt64 >>> (((8 : Int32)).toInt64.toUInt64 &&& Int64.toUInt64 63)).toInt64) = uN v / 256 := uN_sk (k := 8) v (by decide)
theorem uS16 (v : Int64) : uN ((v.toUInt64 >>> (((16 : Int32)).toInt64.toUInt64 &&& Int64.toUInt64 63)).toInt64) = uN v / 65536 := uN_sk (k := 16) v (by decide)
theorem uS32 (v : Int64) : uN ((v.toUInt64 >>> (((32 : Int32)).toInt64.toUInt64 &&& Int64.toUInt64 63)).toInt64) = uN v / 4294967296 := uN_sk (k := 32) v (by decide)
theorem cm5 : uN 6148914691236517205 = rpB 85 8 := by decide +kernel
theorem cm3 : uN 3689348814741910323 = rpB 51 8 := by decide +kernel
theorem cmf : uN 1085102592571150095 = rpB 15 8 := by decide +kernel
theorem p8 : (256 : Nat) ^ 8 = 18446744073709551616 := by decide +kernel
theorem p7 : (256 : Nat) ^ 7 = 72057594037927936 := by decide +kernel
theorem uid (v : Int64) : mpB (fun y => y) 8 (uN v) = uN v := mpB_id 8 (uN v) (by rw [p8]; exact uN_lt v)
theorem bcs1 (v : Int64) : uN (i1 v) = mpB bc1 8 (uN v) := by
  have s := mpB_sm (k := 1) (p := 2) (b := 85) rfl ⟨128, rfl⟩ (by omega) sm1 8 (uN v)
  have t := mpB_sub (f := fun y => y) (g := fun y => y / 2 &&& 85) (fun y hy => (bc_all y hy).1) 8 (uN v)
  have w : uN ((v.toUInt64 >>> (((1 : Int32)).toInt64.toUInt64 &&& Int64.toUInt64 63)).toInt64 &&& (6148914691236517205 : Int64)) = mpB (fun y => y / 2 &&& 85) 8 (uN v) := by
    rw [uN_and, uS1, cm5, s]
  have t1 := t.1
  have t2 := t.2
  rw [uid] at t1 t2
  unfold i1
  rw [uN_sub (by rw [w]; exact t1), w]
  exact t2
theorem bcs2 (v : Int64) : uN (i2 (i1 v)) = mpB bc2 8 (uN v) := by
  have s := mpB_sm (k := 2) (p := 4) (b := 51) rfl ⟨64, rfl⟩ (by omega) sm2 8 (uN (i1 v))
  have s0 := mpB_sm (k := 0) (p := 1) (b := 51) rfl ⟨256, rfl⟩ (by omega) (sm0 51 (by omega)) 8 (uN (i1 v))
  have w : uN (((i1 v).toUInt64 >>> (((2 : Int32)).toInt64.toUInt64 &&& Int64.toUInt64 63)).toInt64 &&& (3689348814741910323 : Int64)) = mpB (fun y => y / 4 &&& 51) 8 (uN (i1 v)) := by
    rw [uN_and, uS2, cm3, s]
  have w0 : uN ((i1 v) &&& (3689348814741910323 : Int64)) = mpB (fun y => y / 1 &&& 51) 8 (uN (i1 v)) := by
    rw [uN_and, ← s0, Nat.div_one, cm3]
  have t := mpB_add (f := fun y => y / 1 &&& 51) (g := fun y => y / 4 &&& 51) 8 (uN (i1 v))
  have q : mpB (fun y => (y / 1 &&& 51) + (y / 4 &&& 51)) 8 (uN (i1 v)) = mpB bc2 8 (uN v) := by
    rw [bcs1, mpB_comp (fun y hy => (bc_all y hy).2.1)]
    refine mpB_cong (fun y _ => ?_) 8 _
    show (bc1 y / 1 &&& 51) + _ = _
    rw [Nat.div_one]
    rfl
  have l2 : mpB bc2 8 (uN v) < 256 ^ 8 := mpB_lt (fun y hy => by have := (bc_all y hy).2.2.2.1; omega) 8 (uN v)
  rw [p8] at l2
  unfold i2
  rw [uN_addS (by rw [w0, w, t, q]; exact l2), w0, w, t, q]
theorem bcs3 (v : Int64) : uN (i3 (i2 (i1 v))) = mpB bc3 8 (uN v) := by
  have dg := mpB_dg (g := bc2) (fun y hy => by have := (bc_all y hy).2.2.2.1; omega) 8 (uN v)
  have l2 : mpB bc2 8 (uN v) < 256 ^ 8 := mpB_lt (fun y hy => by have := (bc_all y hy).2.2.2.1; omega) 8 (uN v)
  have n := mpB_n 8 (mpB bc2 8 (uN v)) (fun k hk => by
    rw [dg k hk]
    have := bc_all _ (Nat.mod_lt (uN v / 256 ^ k) (show 0 < 256 by decide))
    exact ⟨this.2.2.2.1, this.2.2.2.2.1⟩) l2
  have top : mpB bc2 8 (uN v) + mpB bc2 8 (uN v) / 16 < 18446744073709551616 := by
    have d7 := dg 7 (by decide)
    have := (bc_all _ (Nat.mod_lt (uN v / 256 ^ 7) (show 0 < 256 by decide))).2.2.2.1
    rw [← d7, p7] at this
    rw [p8] at l2
    clear n dg d7
    generalize mpB bc2 8 (uN v) = z at *
    omega
  unfold i3
  rw [uN_and, uN_addS (by rw [uS4, bcs2]; exact top), uS4, bcs2, cmf, n]
  rw [mpB_comp (fun y hy => by have := (bc_all y hy).2.2.2.1; omega)]
  rfl
