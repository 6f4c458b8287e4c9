/-! FACE: a row of eight cells, looked at both ways -/
/-- the class: how long the run is that ends here, the longest so far, where it began in this row -/
def fcX (b : Nat → Bool) (M : Nat) : Nat → Nat × Nat × Option Nat
  | 0 => (0, M, none)
  | x + 1 =>
    if b x = true then
      if (fcX b M x).2.1 < (fcX b M x).1 + 1 then ((fcX b M x).1 + 1, (fcX b M x).1 + 1, some (x - (fcX b M x).1)) else ((fcX b M x).1 + 1, (fcX b M x).2)
    else (0, (fcX b M x).2)
/-- how long the run is that begins here -/
def lnF (b : Nat → Bool) (x : Nat) : Nat → Nat
  | 0 => 0
  | r + 1 => if b x = true then lnF b (x + 1) r + 1 else 0
def fcM (b : Nat → Bool) (M : Nat) : Nat → Nat × Option Nat
  | 0 => (M, none)
  | x + 1 => if (fcM b M x).1 < lnF b x (8 - x) then (lnF b x (8 - x), some x) else fcM b M x
def fcE (v M : Nat) : Bool := (fcX (fun x => v.testBit x) M 8).2 == fcM (fun x => v.testBit x) M 8
theorem fc_all : (List.range 256).all (fun v => (List.range 9).all (fun M => fcE v M)) = true := by decide +kernel
theorem fc_at {v M : Nat} (hv : v < 256) (hM : M ≤ 8) : (fcX (fun x => v.testBit x) M 8).2 = fcM (fun x => v.testBit x) M 8 := by
  have h := List.all_eq_true.mp (List.all_eq_true.mp fc_all v (List.mem_range.mpr hv)) M (List.mem_range.mpr (by omega))
  exact eq_of_beq h
