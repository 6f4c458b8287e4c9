/-! THE CLAIM OUT OF ONE WALK OF THE LAW'S BODY. Your part is whole_start (and what it stands on); all else here is the same for every law, but numbers. -/
def R_law : String := "LullabyPitLaw"
def lw_P (b : Addr) (xs : List Int32) (args : Array Value) (s : State) : Prop := args = #[.ref b] ∧ s.IntsAt b xs ∧ xs.length ≤ 3072 ∧ (Jvm.Cond.and given_1 narrow_1).before args s = true
def lw_Q (_ : Array Value) (s : State) (o : Outcome) (t : State) : Prop := o = .returned (some (.int 1)) ∧ Framed s o t [] 601024 7293034
def lw_Z (below : List Frame) (a : Array Value) (s : State) : State → Prop := fun t => ∃ o, t.status = .running ∧ Ended t below o ∧ lw_Q a s o t
/-- the law's own end, with 1 on the stack, nothing written that was there before, its room as the claim has it -/
theorem lw_ret {p : Program} {l : Launch} {e : Env} {s : State} {m : MethodId} {below : List Frame} {meth : Method} {c : Code} {b : Nat} (hx : p.tables.exec = Jvm.exec) (hb : c.code = code) (hr : meth.sig.returnType = ret) (hlocks : meth.locks = false) {pc : Nat} {H : Heap} {ls : Array Slot} (hdg : decode code pc = .ok (.ireturn, 1)) : W p l e room_1 s m #[Value.ref b] below meth c H [] 601024 7293034 (lw_Z below #[Value.ref b] s) (F0 m pc ls [.int 1]) := by
  intro T hT X
  obtain ⟨fs, hret, hrun, hended, hW, hframe⟩ := X.leave (v := some (.int 1)) (hlocks := hlocks) (fun h => by rw [hr] at h; cases h)
  have hmeth' : T.vm.method? m = some meth := X.method'
  refine ⟨T.setFrames fs, ?_, .returned (some (.int 1)), hrun, hended, rfl, ⟨_, rfl⟩, hW, hframe⟩
  jvm_step X.here [X.here.top, hx, hb, hdg, hmeth', hr, ret, narrow_b1]
  (try refine ⟨rfl, ?_⟩); (try refine ⟨rfl, ?_⟩)
  first | (intro acts; rw [hret _ acts rfl rfl rfl]) | rw [hret _ _ rfl rfl rfl]
  exact Steps.refl _
/-- what holds at the law's entry: the machine, the code, the tables' words (any of lw_tbl by 'hts w (by decide +kernel)'), the script of L ints xs at the cell b, what the Statement gives of the start (any of its parts by flat_of_before) -/
def lw_At (p : Program) (s : State) (m : MethodId) (meth : Method) (c : Code) (b L : Nat) (xs : Nat → Int32) : Prop :=
  p.tables.exec = Jvm.exec ∧ c.code = code ∧ meth.sig.returnType = ret ∧ c.maxLocals = 8 ∧ s.vm.findClass R_law = some m.cls ∧ (∀ w ∈ lw_tbl, w.before #[Value.ref b] s = true) ∧ va_X b L xs s s.heap ∧ b < s.heap.size ∧ meth.locks = false ∧ (Jvm.Cond.and given_1 narrow_1).before #[Value.ref b] s = true
/-! THE ENTRY -/
/-- the classes by number -/
theorem l_KC {s : State} {args : Array Value} (hts : ∀ w ∈ k_tb, w.before args s = true) : ∃ D : va_G, ∀ (k : Nat) (q : vw_C), vwCl[k]? = some q → u_Kn s q.1 q.2.1 q.2.2 (D.1 k) (D.2 k) := by
  obtain ⟨c0, i0, k0⟩ := u_known (C := RX0) (T := TX0) (N := 5) (n := 5) hts in_X0 (hts (.instantiable RX0 5) (k_me (tm2 (List.mem_of_getElem? (i := 158) rfl)) rfl))
  obtain ⟨c1, i1, k1⟩ := u_known (C := RX1) (T := TX1) (N := 3) (n := 3) hts in_X1 (hts (.instantiable RX1 3) (k_me (tm1 (List.mem_of_getElem? (i := 163) rfl)) rfl))
  obtain ⟨c2, i2, k2⟩ := u_known (C := RX2) (T := TX2) (N := 4) (n := 4) hts in_X2 (hts (.instantiable RX2 4) (k_me (tm2 (List.mem_of_getElem? (i := 185) rfl)) rfl))
  obtain ⟨c3, i3, k3⟩ := u_known (C := RX3) (T := TX3) (N := 18) (n := 18) hts in_X3 (hts (.instantiable RX3 18) (k_me (tm1 (List.mem_of_getElem? (i := 191) rfl)) rfl))
  obtain ⟨c4, i4, k4⟩ := u_known (C := RX4) (T := TX4) (N := 6) (n := 6) hts in_X4 (hts (.instantiable RX4 6) (k_me (tm2 (List.mem_of_getElem? (i := 67) rfl)) rfl))
  obtain ⟨c5, i5, k5⟩ := u_known (C := RX5) (T := TX5) (N := 14) (n := 14) hts in_X5 (hts (.instantiable RX5 14) (k_me (tm1 (List.mem_of_getElem? (i := 73) rfl)) rfl))
  obtain ⟨c6, i6, k6⟩ := u_known (C := RX6) (T := TX6) (N := 7) (n := 7) hts in_X6 (hts (.instantiable RX6 7) (k_me (tm2 (List.mem_of_getElem? (i := 36) rfl)) rfl))
  obtain ⟨c7, i7, k7⟩ := u_known (C := RX7) (T := TX7) (N := 6) (n := 6) hts in_X7 (hts (.instantiable RX7 6) (k_me (tm2 (List.mem_of_getElem? (i := 96) rfl)) rfl))
  obtain ⟨c8, i8, k8⟩ := u_known (C := RX8) (T := TX8) (N := 7) (n := 7) hts in_X8 (hts (.instantiable RX8 7) (k_me (tm1 (List.mem_of_getElem? (i := 37) rfl)) rfl))
  obtain ⟨c9, i9, k9⟩ := u_known (C := RX9) (T := TX9) (N := 4) (n := 4) hts in_X9 (hts (.instantiable RX9 4) (k_me (tm2 (List.mem_of_getElem? (i := 137) rfl)) rfl))
  obtain ⟨c10, i10, k10⟩ := u_known (C := RX10) (T := TX10) (N := 15) (n := 15) hts in_X10 (hts (.instantiable RX10 15) (k_me (tm1 (List.mem_of_getElem? (i := 29) rfl)) rfl))
  obtain ⟨c11, i11, k11⟩ := u_known (C := RX11) (T := TX11) (N := 66) (n := 66) hts in_X11 (hts (.instantiable RX11 66) (k_me (tm6 (List.mem_of_getElem? (i := 218) rfl)) rfl))
  refine ⟨(fun k => match k with | 0 => c0 | 1 => c1 | 2 => c2 | 3 => c3 | 4 => c4 | 5 => c5 | 6 => c6 | 7 => c7 | 8 => c8 | 9 => c9 | 10 => c10 | _ => c11, fun k => match k with | 0 => i0 | 1 => i1 | 2 => i2 | 3 => i3 | 4 => i4 | 5 => i5 | 6 => i6 | 7 => i7 | 8 => i8 | 9 => i9 | 10 => i10 | _ => i11), ?_⟩
  intro k q hq
  match k, hq with
  | 0, hq => cases hq; exact k0
  | 1, hq => cases hq; exact k1
  | 2, hq => cases hq; exact k2
  | 3, hq => cases hq; exact k3
  | 4, hq => cases hq; exact k4
  | 5, hq => cases hq; exact k5
  | 6, hq => cases hq; exact k6
  | 7, hq => cases hq; exact k7
  | 8, hq => cases hq; exact k8
  | 9, hq => cases hq; exact k9
  | 10, hq => cases hq; exact k10
  | 11, hq => cases hq; exact k11
  | k + 12, hq => simp [vwCl] at hq
theorem l_arr {s : State} {args : Array Value} {ty : FieldType} (hty : ∀ C, ty ≠ .object C) (h : (Cond.arrayClass ty).before args s = true) : ∃ c : ClassId, ArrOfT s c ty ∧ va_RA s c ty := by
  obtain ⟨c, k, comp, h1, h2, h3⟩ := Cond.arrayClass_spec (args := args) (first := s) (o := none) (s := s) (idx := []) h
  refine ⟨c, fun n z => ⟨(fun k h => by cases h), k, h2, comp, h3⟩, ?_⟩
  cases ty with
  | object C => exact absurd rfl (hty C)
  | _ => exact h1
theorem l_arrO {s : State} {args : Array Value} {C : String} (h : (Cond.arrayOver (.object C)).before args s = true) : ∃ c : ClassId, ArrOfT s c (.object C) ∧ va_RA s c (.object C) := by
  obtain ⟨comp, c, k, h1, -, h2, h3, h4⟩ := Cond.arrayOver_spec (args := args) (first := s) (o := none) (s := s) (idx := []) h
  exact ⟨c, fun n z => ⟨(fun k h => by cases h), k, h2, comp, h3⟩, ⟨k, comp, h2, h3, h1, h4⟩⟩
theorem l_K {s : State} {args : Array Value} (htl : ∀ w ∈ lw_tbl, w.before args s = true) (hts : ∀ w ∈ k_tb, w.before args s = true) : ∃ (D : va_G) (cA : Nat → Nat), va_K D vwCl (k_tys cA) s := by
  obtain ⟨D, hD⟩ := l_KC hts
  obtain ⟨a0, h0⟩ := l_arr (ty := .int) (fun _ h => nomatch h) (hts _ (k_me (tm1 (List.mem_of_getElem? (i := 161) rfl)) rfl))
  obtain ⟨a1, h1⟩ := l_arr (ty := .byte) (fun _ h => nomatch h) (hts _ (k_me (tm1 (List.mem_of_getElem? (i := 71) rfl)) rfl))
  obtain ⟨a2, h2⟩ := l_arr (ty := .boolean) (fun _ h => nomatch h) (hts _ (k_me (tm7 (List.mem_of_getElem? (i := 194) rfl)) rfl))
  obtain ⟨a3, h3⟩ := l_arr (ty := .long) (fun _ h => nomatch h) (hts _ (k_me (tm9 (List.mem_of_getElem? (i := 165) rfl)) rfl))
  obtain ⟨a4, h4⟩ := l_arrO (C := "LullabyPit$Mine") (htl _ (tm2 (List.mem_of_getElem? (i := 73) rfl)))
  refine ⟨D, fun k => match k with | 0 => a0 | 1 => a1 | 2 => a2 | 3 => a3 | _ => a4, hD, ?_⟩
  intro k q hq
  match k, hq with
  | 0, hq => cases hq; exact h0
  | 1, hq => cases hq; exact h1
  | 2, hq => cases hq; exact h2
  | 3, hq => cases hq; exact h3
  | 4, hq => cases hq; exact h4
  | k + 5, hq => simp [k_tys] at hq
def l_tm (i : Nat) : Term := match k_st[i]? with | some q => .string q.1 q.2.1 | none => .result
def l_F : List Cond := flatC (Jvm.Cond.and given_1 narrow_1)
set_option maxRecDepth 20000 in
theorem l_s0 : Cond.exactly (l_tm 0) "java/lang/String" ∈ l_F ∧ Cond.eq (.field (l_tm 0) "java/lang/String" "coder" "B") (.int 0) ∈ l_F ∧ Cond.arrayOf (.field (l_tm 0) "java/lang/String" "value" "[B") .byte ∈ l_F ∧ Cond.eq (.length (.field (l_tm 0) "java/lang/String" "value" "[B")) (.int (Int32.ofNat (k_sb.getD 0 []).length)) ∈ l_F ∧ ∀ j, j < (k_sb.getD 0 []).length → Cond.eq (.elem (.field (l_tm 0) "java/lang/String" "value" "[B") (.int (Int32.ofNat j))) (.int ((k_sb.getD 0 []).getD j 0)) ∈ l_F := by
  refine ⟨List.mem_of_getElem? (i := 60) rfl, List.mem_of_getElem? (i := 61) rfl, List.mem_of_getElem? (i := 62) rfl, List.mem_of_getElem? (i := 63) rfl, ?_⟩
  intro j hj
  have hj2 : j < 19 := hj
  match j, hj2 with
  | 0, _ => exact List.mem_of_getElem? (i := 64) rfl
  | 1, _ => exact List.mem_of_getElem? (i := 65) rfl
  | 2, _ => exact List.mem_of_getElem? (i := 66) rfl
  | 3, _ => exact List.mem_of_getElem? (i := 67) rfl
  | 4, _ => exact List.mem_of_getElem? (i := 68) rfl
  | 5, _ => exact List.mem_of_getElem? (i := 69) rfl
  | 6, _ => exact List.mem_of_getElem? (i := 70) rfl
  | 7, _ => exact List.mem_of_getElem? (i := 71) rfl
  | 8, _ => exact List.mem_of_getElem? (i := 72) rfl
  | 9, _ => exact List.mem_of_getElem? (i := 73) rfl
  | 10, _ => exact List.mem_of_getElem? (i := 74) rfl
  | 11, _ => exact List.mem_of_getElem? (i := 75) rfl
  | 12, _ => exact List.mem_of_getElem? (i := 76) rfl
  | 13, _ => exact List.mem_of_getElem? (i := 77) rfl
  | 14, _ => exact List.mem_of_getElem? (i := 78) rfl
  | 15, _ => exact List.mem_of_getElem? (i := 79) rfl
  | 16, _ => exact List.mem_of_getElem? (i := 80) rfl
  | 17, _ => exact List.mem_of_getElem? (i := 81) rfl
  | 18, _ => exact List.mem_of_getElem? (i := 82) rfl
  | j + 19, h => omega
set_option maxRecDepth 20000 in
theorem l_s1 : Cond.exactly (l_tm 1) "java/lang/String" ∈ l_F ∧ Cond.eq (.field (l_tm 1) "java/lang/String" "coder" "B") (.int 0) ∈ l_F ∧ Cond.arrayOf (.field (l_tm 1) "java/lang/String" "value" "[B") .byte ∈ l_F ∧ Cond.eq (.length (.field (l_tm 1) "java/lang/String" "value" "[B")) (.int (Int32.ofNat (k_sb.getD 1 []).length)) ∈ l_F ∧ ∀ j, j < (k_sb.getD 1 []).length → Cond.eq (.elem (.field (l_tm 1) "java/lang/String" "value" "[B") (.int (Int32.ofNat j))) (.int ((k_sb.getD 1 []).getD j 0)) ∈ l_F := by
  refine ⟨List.mem_of_getElem? (i := 83) rfl, List.mem_of_getElem? (i := 84) rfl, List.mem_of_getElem? (i := 85) rfl, List.mem_of_getElem? (i := 86) rfl, ?_⟩
  intro j hj
  have hj2 : j < 44 := hj
  match j, hj2 with
  | 0, _ => exact List.mem_of_getElem? (i := 87) rfl
  | 1, _ => exact List.mem_of_getElem? (i := 88) rfl
  | 2, _ => exact List.mem_of_getElem? (i := 89) rfl
  | 3, _ => exact List.mem_of_getElem? (i := 90) rfl
  | 4, _ => exact List.mem_of_getElem? (i := 91) rfl
  | 5, _ => exact List.mem_of_getElem? (i := 92) rfl
  | 6, _ => exact List.mem_of_getElem? (i := 93) rfl
  | 7, _ => exact List.mem_of_getElem? (i := 94) rfl
  | 8, _ => exact List.mem_of_getElem? (i := 95) rfl
  | 9, _ => exact List.mem_of_getElem? (i := 96) rfl
  | 10, _ => exact List.mem_of_getElem? (i := 97) rfl
  | 11, _ => exact List.mem_of_getElem? (i := 98) rfl
  | 12, _ => exact List.mem_of_getElem? (i := 99) rfl
  | 13, _ => exact List.mem_of_getElem? (i := 100) rfl
  | 14, _ => exact List.mem_of_getElem? (i := 101) rfl
  | 15, _ => exact List.mem_of_getElem? (i := 102) rfl
  | 16, _ => exact List.mem_of_getElem? (i := 103) rfl
  | 17, _ => exact List.mem_of_getElem? (i := 104) rfl
  | 18, _ => exact List.mem_of_getElem? (i := 105) rfl
  | 19, _ => exact List.mem_of_getElem? (i := 106) rfl
  | 20, _ => exact List.mem_of_getElem? (i := 107) rfl
  | 21, _ => exact List.mem_of_getElem? (i := 108) rfl
  | 22, _ => exact List.mem_of_getElem? (i := 109) rfl
  | 23, _ => exact List.mem_of_getElem? (i := 110) rfl
  | 24, _ => exact List.mem_of_getElem? (i := 111) rfl
  | 25, _ => exact List.mem_of_getElem? (i := 112) rfl
  | 26, _ => exact List.mem_of_getElem? (i := 113) rfl
  | 27, _ => exact List.mem_of_getElem? (i := 114) rfl
  | 28, _ => exact List.mem_of_getElem? (i := 115) rfl
  | 29, _ => exact List.mem_of_getElem? (i := 116) rfl
  | 30, _ => exact List.mem_of_getElem? (i := 117) rfl
  | 31, _ => exact List.mem_of_getElem? (i := 118) rfl
  | 32, _ => exact List.mem_of_getElem? (i := 119) rfl
  | 33, _ => exact List.mem_of_getElem? (i := 120) rfl
  | 34, _ => exact List.mem_of_getElem? (i := 121) rfl
  | 35, _ => exact List.mem_of_getElem? (i := 122) rfl
  | 36, _ => exact List.mem_of_getElem? (i := 123) rfl
  | 37, _ => exact List.mem_of_getElem? (i := 124) rfl
  | 38, _ => exact List.mem_of_getElem? (i := 125) rfl
  | 39, _ => exact List.mem_of_getElem? (i := 126) rfl
  | 40, _ => exact List.mem_of_getElem? (i := 127) rfl
  | 41, _ => exact List.mem_of_getElem? (i := 128) rfl
  | 42, _ => exact List.mem_of_getElem? (i := 129) rfl
  | 43, _ => exact List.mem_of_getElem? (i := 130) rfl
  | j + 44, h => omega
set_option maxRecDepth 20000 in
theorem l_s2 : Cond.exactly (l_tm 2) "java/lang/String" ∈ l_F ∧ Cond.eq (.field (l_tm 2) "java/lang/String" "coder" "B") (.int 0) ∈ l_F ∧ Cond.arrayOf (.field (l_tm 2) "java/lang/String" "value" "[B") .byte ∈ l_F ∧ Cond.eq (.length (.field (l_tm 2) "java/lang/String" "value" "[B")) (.int (Int32.ofNat (k_sb.getD 2 []).length)) ∈ l_F ∧ ∀ j, j < (k_sb.getD 2 []).length → Cond.eq (.elem (.field (l_tm 2) "java/lang/String" "value" "[B") (.int (Int32.ofNat j))) (.int ((k_sb.getD 2 []).getD j 0)) ∈ l_F := by
  refine ⟨List.mem_of_getElem? (i := 131) rfl, List.mem_of_getElem? (i := 132) rfl, List.mem_of_getElem? (i := 133) rfl, List.mem_of_getElem? (i := 134) rfl, ?_⟩
  intro j hj
  have hj2 : j < 3 := hj
  match j, hj2 with
  | 0, _ => exact List.mem_of_getElem? (i := 135) rfl
  | 1, _ => exact List.mem_of_getElem? (i := 136) rfl
  | 2, _ => exact List.mem_of_getElem? (i := 137) rfl
  | j + 3, h => omega
set_option maxRecDepth 20000 in
theorem l_s3 : Cond.exactly (l_tm 3) "java/lang/String" ∈ l_F ∧ Cond.eq (.field (l_tm 3) "java/lang/String" "coder" "B") (.int 0) ∈ l_F ∧ Cond.arrayOf (.field (l_tm 3) "java/lang/String" "value" "[B") .byte ∈ l_F ∧ Cond.eq (.length (.field (l_tm 3) "java/lang/String" "value" "[B")) (.int (Int32.ofNat (k_sb.getD 3 []).length)) ∈ l_F ∧ ∀ j, j < (k_sb.getD 3 []).length → Cond.eq (.elem (.field (l_tm 3) "java/lang/String" "value" "[B") (.int (Int32.ofNat j))) (.int ((k_sb.getD 3 []).getD j 0)) ∈ l_F := by
  refine ⟨List.mem_of_getElem? (i := 138) rfl, List.mem_of_getElem? (i := 139) rfl, List.mem_of_getElem? (i := 140) rfl, List.mem_of_getElem? (i := 141) rfl, ?_⟩
  intro j hj
  have hj2 : j < 52 := hj
  match j, hj2 with
  | 0, _ => exact List.mem_of_getElem? (i := 142) rfl
  | 1, _ => exact List.mem_of_getElem? (i := 143) rfl
  | 2, _ => exact List.mem_of_getElem? (i := 144) rfl
  | 3, _ => exact List.mem_of_getElem? (i := 145) rfl
  | 4, _ => exact List.mem_of_getElem? (i := 146) rfl
  | 5, _ => exact List.mem_of_getElem? (i := 147) rfl
  | 6, _ => exact List.mem_of_getElem? (i := 148) rfl
  | 7, _ => exact List.mem_of_getElem? (i := 149) rfl
  | 8, _ => exact List.mem_of_getElem? (i := 150) rfl
  | 9, _ => exact List.mem_of_getElem? (i := 151) rfl
  | 10, _ => exact List.mem_of_getElem? (i := 152) rfl
  | 11, _ => exact List.mem_of_getElem? (i := 153) rfl
  | 12, _ => exact List.mem_of_getElem? (i := 154) rfl
  | 13, _ => exact List.mem_of_getElem? (i := 155) rfl
  | 14, _ => exact List.mem_of_getElem? (i := 156) rfl
  | 15, _ => exact List.mem_of_getElem? (i := 157) rfl
  | 16, _ => exact List.mem_of_getElem? (i := 158) rfl
  | 17, _ => exact List.mem_of_getElem? (i := 159) rfl
  | 18, _ => exact List.mem_of_getElem? (i := 160) rfl
  | 19, _ => exact List.mem_of_getElem? (i := 161) rfl
  | 20, _ => exact List.mem_of_getElem? (i := 162) rfl
  | 21, _ => exact List.mem_of_getElem? (i := 163) rfl
  | 22, _ => exact List.mem_of_getElem? (i := 164) rfl
  | 23, _ => exact List.mem_of_getElem? (i := 165) rfl
  | 24, _ => exact List.mem_of_getElem? (i := 166) rfl
  | 25, _ => exact List.mem_of_getElem? (i := 167) rfl
  | 26, _ => exact List.mem_of_getElem? (i := 168) rfl
  | 27, _ => exact List.mem_of_getElem? (i := 169) rfl
  | 28, _ => exact List.mem_of_getElem? (i := 170) rfl
  | 29, _ => exact List.mem_of_getElem? (i := 171) rfl
  | 30, _ => exact List.mem_of_getElem? (i := 172) rfl
  | 31, _ => exact List.mem_of_getElem? (i := 173) rfl
  | 32, _ => exact List.mem_of_getElem? (i := 174) rfl
  | 33, _ => exact List.mem_of_getElem? (i := 175) rfl
  | 34, _ => exact List.mem_of_getElem? (i := 176) rfl
  | 35, _ => exact List.mem_of_getElem? (i := 177) rfl
  | 36, _ => exact List.mem_of_getElem? (i := 178) rfl
  | 37, _ => exact List.mem_of_getElem? (i := 179) rfl
  | 38, _ => exact List.mem_of_getElem? (i := 180) rfl
  | 39, _ => exact List.mem_of_getElem? (i := 181) rfl
  | 40, _ => exact List.mem_of_getElem? (i := 182) rfl
  | 41, _ => exact List.mem_of_getElem? (i := 183) rfl
  | 42, _ => exact List.mem_of_getElem? (i := 184) rfl
  | 43, _ => exact List.mem_of_getElem? (i := 185) rfl
  | 44, _ => exact List.mem_of_getElem? (i := 186) rfl
  | 45, _ => exact List.mem_of_getElem? (i := 187) rfl
  | 46, _ => exact List.mem_of_getElem? (i := 188) rfl
  | 47, _ => exact List.mem_of_getElem? (i := 189) rfl
  | 48, _ => exact List.mem_of_getElem? (i := 190) rfl
  | 49, _ => exact List.mem_of_getElem? (i := 191) rfl
  | 50, _ => exact List.mem_of_getElem? (i := 192) rfl
  | 51, _ => exact List.mem_of_getElem? (i := 193) rfl
  | j + 52, h => omega
set_option maxRecDepth 20000 in
theorem l_s4 : Cond.exactly (l_tm 4) "java/lang/String" ∈ l_F ∧ Cond.eq (.field (l_tm 4) "java/lang/String" "coder" "B") (.int 0) ∈ l_F ∧ Cond.arrayOf (.field (l_tm 4) "java/lang/String" "value" "[B") .byte ∈ l_F ∧ Cond.eq (.length (.field (l_tm 4) "java/lang/String" "value" "[B")) (.int (Int32.ofNat (k_sb.getD 4 []).length)) ∈ l_F ∧ ∀ j, j < (k_sb.getD 4 []).length → Cond.eq (.elem (.field (l_tm 4) "java/lang/String" "value" "[B") (.int (Int32.ofNat j))) (.int ((k_sb.getD 4 []).getD j 0)) ∈ l_F := by
  refine ⟨List.mem_of_getElem? (i := 194) rfl, List.mem_of_getElem? (i := 195) rfl, List.mem_of_getElem? (i := 196) rfl, List.mem_of_getElem? (i := 197) rfl, ?_⟩
  intro j hj
  have hj2 : j < 30 := hj
  match j, hj2 with
  | 0, _ => exact List.mem_of_getElem? (i := 198) rfl
  | 1, _ => exact List.mem_of_getElem? (i := 199) rfl
  | 2, _ => exact List.mem_of_getElem? (i := 200) rfl
  | 3, _ => exact List.mem_of_getElem? (i := 201) rfl
  | 4, _ => exact List.mem_of_getElem? (i := 202) rfl
  | 5, _ => exact List.mem_of_getElem? (i := 203) rfl
  | 6, _ => exact List.mem_of_getElem? (i := 204) rfl
  | 7, _ => exact List.mem_of_getElem? (i := 205) rfl
  | 8, _ => exact List.mem_of_getElem? (i := 206) rfl
  | 9, _ => exact List.mem_of_getElem? (i := 207) rfl
  | 10, _ => exact List.mem_of_getElem? (i := 208) rfl
  | 11, _ => exact List.mem_of_getElem? (i := 209) rfl
  | 12, _ => exact List.mem_of_getElem? (i := 210) rfl
  | 13, _ => exact List.mem_of_getElem? (i := 211) rfl
  | 14, _ => exact List.mem_of_getElem? (i := 212) rfl
  | 15, _ => exact List.mem_of_getElem? (i := 213) rfl
  | 16, _ => exact List.mem_of_getElem? (i := 214) rfl
  | 17, _ => exact List.mem_of_getElem? (i := 215) rfl
  | 18, _ => exact List.mem_of_getElem? (i := 216) rfl
  | 19, _ => exact List.mem_of_getElem? (i := 217) rfl
  | 20, _ => exact List.mem_of_getElem? (i := 218) rfl
  | 21, _ => exact List.mem_of_getElem? (i := 219) rfl
  | 22, _ => exact List.mem_of_getElem? (i := 220) rfl
  | 23, _ => exact List.mem_of_getElem? (i := 221) rfl
  | 24, _ => exact List.mem_of_getElem? (i := 222) rfl
  | 25, _ => exact List.mem_of_getElem? (i := 223) rfl
  | 26, _ => exact List.mem_of_getElem? (i := 224) rfl
  | 27, _ => exact List.mem_of_getElem? (i := 225) rfl
  | 28, _ => exact List.mem_of_getElem? (i := 226) rfl
  | 29, _ => exact List.mem_of_getElem? (i := 227) rfl
  | j + 30, h => omega
set_option maxRecDepth 20000 in
theorem l_s5 : Cond.exactly (l_tm 5) "java/lang/String" ∈ l_F ∧ Cond.eq (.field (l_tm 5) "java/lang/String" "coder" "B") (.int 0) ∈ l_F ∧ Cond.arrayOf (.field (l_tm 5) "java/lang/String" "value" "[B") .byte ∈ l_F ∧ Cond.eq (.length (.field (l_tm 5) "java/lang/String" "value" "[B")) (.int (Int32.ofNat (k_sb.getD 5 []).length)) ∈ l_F ∧ ∀ j, j < (k_sb.getD 5 []).length → Cond.eq (.elem (.field (l_tm 5) "java/lang/String" "value" "[B") (.int (Int32.ofNat j))) (.int ((k_sb.getD 5 []).getD j 0)) ∈ l_F := by
  refine ⟨List.mem_of_getElem? (i := 228) rfl, List.mem_of_getElem? (i := 229) rfl, List.mem_of_getElem? (i := 230) rfl, List.mem_of_getElem? (i := 231) rfl, ?_⟩
  intro j hj
  have hj2 : j < 12 := hj
  match j, hj2 with
  | 0, _ => exact List.mem_of_getElem? (i := 232) rfl
  | 1, _ => exact List.mem_of_getElem? (i := 233) rfl
  | 2, _ => exact List.mem_of_getElem? (i := 234) rfl
  | 3, _ => exact List.mem_of_getElem? (i := 235) rfl
  | 4, _ => exact List.mem_of_getElem? (i := 236) rfl
  | 5, _ => exact List.mem_of_getElem? (i := 237) rfl
  | 6, _ => exact List.mem_of_getElem? (i := 238) rfl
  | 7, _ => exact List.mem_of_getElem? (i := 239) rfl
  | 8, _ => exact List.mem_of_getElem? (i := 240) rfl
  | 9, _ => exact List.mem_of_getElem? (i := 241) rfl
  | 10, _ => exact List.mem_of_getElem? (i := 242) rfl
  | 11, _ => exact List.mem_of_getElem? (i := 243) rfl
  | j + 12, h => omega
set_option maxRecDepth 20000 in
theorem l_s6 : Cond.exactly (l_tm 6) "java/lang/String" ∈ l_F ∧ Cond.eq (.field (l_tm 6) "java/lang/String" "coder" "B") (.int 0) ∈ l_F ∧ Cond.arrayOf (.field (l_tm 6) "java/lang/String" "value" "[B") .byte ∈ l_F ∧ Cond.eq (.length (.field (l_tm 6) "java/lang/String" "value" "[B")) (.int (Int32.ofNat (k_sb.getD 6 []).length)) ∈ l_F ∧ ∀ j, j < (k_sb.getD 6 []).length → Cond.eq (.elem (.field (l_tm 6) "java/lang/String" "value" "[B") (.int (Int32.ofNat j))) (.int ((k_sb.getD 6 []).getD j 0)) ∈ l_F := by
  refine ⟨List.mem_of_getElem? (i := 244) rfl, List.mem_of_getElem? (i := 245) rfl, List.mem_of_getElem? (i := 246) rfl, List.mem_of_getElem? (i := 247) rfl, ?_⟩
  intro j hj
  have hj2 : j < 13 := hj
  match j, hj2 with
  | 0, _ => exact List.mem_of_getElem? (i := 248) rfl
  | 1, _ => exact List.mem_of_getElem? (i := 249) rfl
  | 2, _ => exact List.mem_of_getElem? (i := 250) rfl
  | 3, _ => exact List.mem_of_getElem? (i := 251) rfl
  | 4, _ => exact List.mem_of_getElem? (i := 252) rfl
  | 5, _ => exact List.mem_of_getElem? (i := 253) rfl
  | 6, _ => exact List.mem_of_getElem? (i := 254) rfl
  | 7, _ => exact List.mem_of_getElem? (i := 255) rfl
  | 8, _ => exact List.mem_of_getElem? (i := 256) rfl
  | 9, _ => exact List.mem_of_getElem? (i := 257) rfl
  | 10, _ => exact List.mem_of_getElem? (i := 258) rfl
  | 11, _ => exact List.mem_of_getElem? (i := 259) rfl
  | 12, _ => exact List.mem_of_getElem? (i := 260) rfl
  | j + 13, h => omega
set_option maxRecDepth 20000 in
theorem l_s7 : Cond.exactly (l_tm 7) "java/lang/String" ∈ l_F ∧ Cond.eq (.field (l_tm 7) "java/lang/String" "coder" "B") (.int 0) ∈ l_F ∧ Cond.arrayOf (.field (l_tm 7) "java/lang/String" "value" "[B") .byte ∈ l_F ∧ Cond.eq (.length (.field (l_tm 7) "java/lang/String" "value" "[B")) (.int (Int32.ofNat (k_sb.getD 7 []).length)) ∈ l_F ∧ ∀ j, j < (k_sb.getD 7 []).length → Cond.eq (.elem (.field (l_tm 7) "java/lang/String" "value" "[B") (.int (Int32.ofNat j))) (.int ((k_sb.getD 7 []).getD j 0)) ∈ l_F := by
  refine ⟨List.mem_of_getElem? (i := 261) rfl, List.mem_of_getElem? (i := 262) rfl, List.mem_of_getElem? (i := 263) rfl, List.mem_of_getElem? (i := 264) rfl, ?_⟩
  intro j hj
  have hj2 : j < 4 := hj
  match j, hj2 with
  | 0, _ => exact List.mem_of_getElem? (i := 265) rfl
  | 1, _ => exact List.mem_of_getElem? (i := 266) rfl
  | 2, _ => exact List.mem_of_getElem? (i := 267) rfl
  | 3, _ => exact List.mem_of_getElem? (i := 268) rfl
  | j + 4, h => omega
set_option maxRecDepth 20000 in
theorem l_s8 : Cond.exactly (l_tm 8) "java/lang/String" ∈ l_F ∧ Cond.eq (.field (l_tm 8) "java/lang/String" "coder" "B") (.int 0) ∈ l_F ∧ Cond.arrayOf (.field (l_tm 8) "java/lang/String" "value" "[B") .byte ∈ l_F ∧ Cond.eq (.length (.field (l_tm 8) "java/lang/String" "value" "[B")) (.int (Int32.ofNat (k_sb.getD 8 []).length)) ∈ l_F ∧ ∀ j, j < (k_sb.getD 8 []).length → Cond.eq (.elem (.field (l_tm 8) "java/lang/String" "value" "[B") (.int (Int32.ofNat j))) (.int ((k_sb.getD 8 []).getD j 0)) ∈ l_F := by
  refine ⟨List.mem_of_getElem? (i := 269) rfl, List.mem_of_getElem? (i := 270) rfl, List.mem_of_getElem? (i := 271) rfl, List.mem_of_getElem? (i := 272) rfl, ?_⟩
  intro j hj
  have hj2 : j < 4 := hj
  match j, hj2 with
  | 0, _ => exact List.mem_of_getElem? (i := 273) rfl
  | 1, _ => exact List.mem_of_getElem? (i := 274) rfl
  | 2, _ => exact List.mem_of_getElem? (i := 275) rfl
  | 3, _ => exact List.mem_of_getElem? (i := 276) rfl
  | j + 4, h => omega
set_option maxRecDepth 20000 in
theorem l_s9 : Cond.exactly (l_tm 9) "java/lang/String" ∈ l_F ∧ Cond.eq (.field (l_tm 9) "java/lang/String" "coder" "B") (.int 0) ∈ l_F ∧ Cond.arrayOf (.field (l_tm 9) "java/lang/String" "value" "[B") .byte ∈ l_F ∧ Cond.eq (.length (.field (l_tm 9) "java/lang/String" "value" "[B")) (.int (Int32.ofNat (k_sb.getD 9 []).length)) ∈ l_F ∧ ∀ j, j < (k_sb.getD 9 []).length → Cond.eq (.elem (.field (l_tm 9) "java/lang/String" "value" "[B") (.int (Int32.ofNat j))) (.int ((k_sb.getD 9 []).getD j 0)) ∈ l_F := by
  refine ⟨List.mem_of_getElem? (i := 277) rfl, List.mem_of_getElem? (i := 278) rfl, List.mem_of_getElem? (i := 279) rfl, List.mem_of_getElem? (i := 280) rfl, ?_⟩
  intro j hj
  have hj2 : j < 5 := hj
  match j, hj2 with
  | 0, _ => exact List.mem_of_getElem? (i := 281) rfl
  | 1, _ => exact List.mem_of_getElem? (i := 282) rfl
  | 2, _ => exact List.mem_of_getElem? (i := 283) rfl
  | 3, _ => exact List.mem_of_getElem? (i := 284) rfl
  | 4, _ => exact List.mem_of_getElem? (i := 285) rfl
  | j + 5, h => omega
set_option maxRecDepth 20000 in
theorem l_s10 : Cond.exactly (l_tm 10) "java/lang/String" ∈ l_F ∧ Cond.eq (.field (l_tm 10) "java/lang/String" "coder" "B") (.int 0) ∈ l_F ∧ Cond.arrayOf (.field (l_tm 10) "java/lang/String" "value" "[B") .byte ∈ l_F ∧ Cond.eq (.length (.field (l_tm 10) "java/lang/String" "value" "[B")) (.int (Int32.ofNat (k_sb.getD 10 []).length)) ∈ l_F ∧ ∀ j, j < (k_sb.getD 10 []).length → Cond.eq (.elem (.field (l_tm 10) "java/lang/String" "value" "[B") (.int (Int32.ofNat j))) (.int ((k_sb.getD 10 []).getD j 0)) ∈ l_F := by
  refine ⟨List.mem_of_getElem? (i := 286) rfl, List.mem_of_getElem? (i := 287) rfl, List.mem_of_getElem? (i := 288) rfl, List.mem_of_getElem? (i := 289) rfl, ?_⟩
  intro j hj
  have hj2 : j < 5 := hj
  match j, hj2 with
  | 0, _ => exact List.mem_of_getElem? (i := 290) rfl
  | 1, _ => exact List.mem_of_getElem? (i := 291) rfl
  | 2, _ => exact List.mem_of_getElem? (i := 292) rfl
  | 3, _ => exact List.mem_of_getElem? (i := 293) rfl
  | 4, _ => exact List.mem_of_getElem? (i := 294) rfl
  | j + 5, h => omega
set_option maxRecDepth 20000 in
theorem l_s11 : Cond.exactly (l_tm 11) "java/lang/String" ∈ l_F ∧ Cond.eq (.field (l_tm 11) "java/lang/String" "coder" "B") (.int 0) ∈ l_F ∧ Cond.arrayOf (.field (l_tm 11) "java/lang/String" "value" "[B") .byte ∈ l_F ∧ Cond.eq (.length (.field (l_tm 11) "java/lang/String" "value" "[B")) (.int (Int32.ofNat (k_sb.getD 11 []).length)) ∈ l_F ∧ ∀ j, j < (k_sb.getD 11 []).length → Cond.eq (.elem (.field (l_tm 11) "java/lang/String" "value" "[B") (.int (Int32.ofNat j))) (.int ((k_sb.getD 11 []).getD j 0)) ∈ l_F := by
  refine ⟨List.mem_of_getElem? (i := 295) rfl, List.mem_of_getElem? (i := 296) rfl, List.mem_of_getElem? (i := 297) rfl, List.mem_of_getElem? (i := 298) rfl, ?_⟩
  intro j hj
  have hj2 : j < 4 := hj
  match j, hj2 with
  | 0, _ => exact List.mem_of_getElem? (i := 299) rfl
  | 1, _ => exact List.mem_of_getElem? (i := 300) rfl
  | 2, _ => exact List.mem_of_getElem? (i := 301) rfl
  | 3, _ => exact List.mem_of_getElem? (i := 302) rfl
  | j + 4, h => omega
set_option maxRecDepth 20000 in
theorem l_s12 : Cond.exactly (l_tm 12) "java/lang/String" ∈ l_F ∧ Cond.eq (.field (l_tm 12) "java/lang/String" "coder" "B") (.int 0) ∈ l_F ∧ Cond.arrayOf (.field (l_tm 12) "java/lang/String" "value" "[B") .byte ∈ l_F ∧ Cond.eq (.length (.field (l_tm 12) "java/lang/String" "value" "[B")) (.int (Int32.ofNat (k_sb.getD 12 []).length)) ∈ l_F ∧ ∀ j, j < (k_sb.getD 12 []).length → Cond.eq (.elem (.field (l_tm 12) "java/lang/String" "value" "[B") (.int (Int32.ofNat j))) (.int ((k_sb.getD 12 []).getD j 0)) ∈ l_F := by
  refine ⟨List.mem_of_getElem? (i := 303) rfl, List.mem_of_getElem? (i := 304) rfl, List.mem_of_getElem? (i := 305) rfl, List.mem_of_getElem? (i := 306) rfl, ?_⟩
  intro j hj
  have hj2 : j < 5 := hj
  match j, hj2 with
  | 0, _ => exact List.mem_of_getElem? (i := 307) rfl
  | 1, _ => exact List.mem_of_getElem? (i := 308) rfl
  | 2, _ => exact List.mem_of_getElem? (i := 309) rfl
  | 3, _ => exact List.mem_of_getElem? (i := 310) rfl
  | 4, _ => exact List.mem_of_getElem? (i := 311) rfl
  | j + 5, h => omega
set_option maxRecDepth 20000 in
theorem l_s13 : Cond.exactly (l_tm 13) "java/lang/String" ∈ l_F ∧ Cond.eq (.field (l_tm 13) "java/lang/String" "coder" "B") (.int 0) ∈ l_F ∧ Cond.arrayOf (.field (l_tm 13) "java/lang/String" "value" "[B") .byte ∈ l_F ∧ Cond.eq (.length (.field (l_tm 13) "java/lang/String" "value" "[B")) (.int (Int32.ofNat (k_sb.getD 13 []).length)) ∈ l_F ∧ ∀ j, j < (k_sb.getD 13 []).length → Cond.eq (.elem (.field (l_tm 13) "java/lang/String" "value" "[B") (.int (Int32.ofNat j))) (.int ((k_sb.getD 13 []).getD j 0)) ∈ l_F := by
  refine ⟨List.mem_of_getElem? (i := 312) rfl, List.mem_of_getElem? (i := 313) rfl, List.mem_of_getElem? (i := 314) rfl, List.mem_of_getElem? (i := 315) rfl, ?_⟩
  intro j hj
  have hj2 : j < 5 := hj
  match j, hj2 with
  | 0, _ => exact List.mem_of_getElem? (i := 316) rfl
  | 1, _ => exact List.mem_of_getElem? (i := 317) rfl
  | 2, _ => exact List.mem_of_getElem? (i := 318) rfl
  | 3, _ => exact List.mem_of_getElem? (i := 319) rfl
  | 4, _ => exact List.mem_of_getElem? (i := 320) rfl
  | j + 5, h => omega
set_option maxRecDepth 20000 in
theorem l_s14 : Cond.exactly (l_tm 14) "java/lang/String" ∈ l_F ∧ Cond.eq (.field (l_tm 14) "java/lang/String" "coder" "B") (.int 0) ∈ l_F ∧ Cond.arrayOf (.field (l_tm 14) "java/lang/String" "value" "[B") .byte ∈ l_F ∧ Cond.eq (.length (.field (l_tm 14) "java/lang/String" "value" "[B")) (.int (Int32.ofNat (k_sb.getD 14 []).length)) ∈ l_F ∧ ∀ j, j < (k_sb.getD 14 []).length → Cond.eq (.elem (.field (l_tm 14) "java/lang/String" "value" "[B") (.int (Int32.ofNat j))) (.int ((k_sb.getD 14 []).getD j 0)) ∈ l_F := by
  refine ⟨List.mem_of_getElem? (i := 321) rfl, List.mem_of_getElem? (i := 322) rfl, List.mem_of_getElem? (i := 323) rfl, List.mem_of_getElem? (i := 324) rfl, ?_⟩
  intro j hj
  have hj2 : j < 5 := hj
  match j, hj2 with
  | 0, _ => exact List.mem_of_getElem? (i := 325) rfl
  | 1, _ => exact List.mem_of_getElem? (i := 326) rfl
  | 2, _ => exact List.mem_of_getElem? (i := 327) rfl
  | 3, _ => exact List.mem_of_getElem? (i := 328) rfl
  | 4, _ => exact List.mem_of_getElem? (i := 329) rfl
  | j + 5, h => omega
set_option maxRecDepth 20000 in
theorem l_s15 : Cond.exactly (l_tm 15) "java/lang/String" ∈ l_F ∧ Cond.eq (.field (l_tm 15) "java/lang/String" "coder" "B") (.int 0) ∈ l_F ∧ Cond.arrayOf (.field (l_tm 15) "java/lang/String" "value" "[B") .byte ∈ l_F ∧ Cond.eq (.length (.field (l_tm 15) "java/lang/String" "value" "[B")) (.int (Int32.ofNat (k_sb.getD 15 []).length)) ∈ l_F ∧ ∀ j, j < (k_sb.getD 15 []).length → Cond.eq (.elem (.field (l_tm 15) "java/lang/String" "value" "[B") (.int (Int32.ofNat j))) (.int ((k_sb.getD 15 []).getD j 0)) ∈ l_F := by
  refine ⟨List.mem_of_getElem? (i := 330) rfl, List.mem_of_getElem? (i := 331) rfl, List.mem_of_getElem? (i := 332) rfl, List.mem_of_getElem? (i := 333) rfl, ?_⟩
  intro j hj
  have hj2 : j < 3 := hj
  match j, hj2 with
  | 0, _ => exact List.mem_of_getElem? (i := 334) rfl
  | 1, _ => exact List.mem_of_getElem? (i := 335) rfl
  | 2, _ => exact List.mem_of_getElem? (i := 336) rfl
  | j + 3, h => omega
set_option maxRecDepth 20000 in
theorem l_s16 : Cond.exactly (l_tm 16) "java/lang/String" ∈ l_F ∧ Cond.eq (.field (l_tm 16) "java/lang/String" "coder" "B") (.int 0) ∈ l_F ∧ Cond.arrayOf (.field (l_tm 16) "java/lang/String" "value" "[B") .byte ∈ l_F ∧ Cond.eq (.length (.field (l_tm 16) "java/lang/String" "value" "[B")) (.int (Int32.ofNat (k_sb.getD 16 []).length)) ∈ l_F ∧ ∀ j, j < (k_sb.getD 16 []).length → Cond.eq (.elem (.field (l_tm 16) "java/lang/String" "value" "[B") (.int (Int32.ofNat j))) (.int ((k_sb.getD 16 []).getD j 0)) ∈ l_F := by
  refine ⟨List.mem_of_getElem? (i := 338) rfl, List.mem_of_getElem? (i := 339) rfl, List.mem_of_getElem? (i := 340) rfl, List.mem_of_getElem? (i := 341) rfl, ?_⟩
  intro j hj
  have hj2 : j < 5 := hj
  match j, hj2 with
  | 0, _ => exact List.mem_of_getElem? (i := 342) rfl
  | 1, _ => exact List.mem_of_getElem? (i := 343) rfl
  | 2, _ => exact List.mem_of_getElem? (i := 344) rfl
  | 3, _ => exact List.mem_of_getElem? (i := 345) rfl
  | 4, _ => exact List.mem_of_getElem? (i := 346) rfl
  | j + 5, h => omega
set_option maxRecDepth 20000 in
theorem l_s17 : Cond.exactly (l_tm 17) "java/lang/String" ∈ l_F ∧ Cond.eq (.field (l_tm 17) "java/lang/String" "coder" "B") (.int 0) ∈ l_F ∧ Cond.arrayOf (.field (l_tm 17) "java/lang/String" "value" "[B") .byte ∈ l_F ∧ Cond.eq (.length (.field (l_tm 17) "java/lang/String" "value" "[B")) (.int (Int32.ofNat (k_sb.getD 17 []).length)) ∈ l_F ∧ ∀ j, j < (k_sb.getD 17 []).length → Cond.eq (.elem (.field (l_tm 17) "java/lang/String" "value" "[B") (.int (Int32.ofNat j))) (.int ((k_sb.getD 17 []).getD j 0)) ∈ l_F := by
  refine ⟨List.mem_of_getElem? (i := 347) rfl, List.mem_of_getElem? (i := 348) rfl, List.mem_of_getElem? (i := 349) rfl, List.mem_of_getElem? (i := 350) rfl, ?_⟩
  intro j hj
  have hj2 : j < 4 := hj
  match j, hj2 with
  | 0, _ => exact List.mem_of_getElem? (i := 351) rfl
  | 1, _ => exact List.mem_of_getElem? (i := 352) rfl
  | 2, _ => exact List.mem_of_getElem? (i := 353) rfl
  | 3, _ => exact List.mem_of_getElem? (i := 354) rfl
  | j + 4, h => omega
set_option maxRecDepth 20000 in
theorem l_s18 : Cond.exactly (l_tm 18) "java/lang/String" ∈ l_F ∧ Cond.eq (.field (l_tm 18) "java/lang/String" "coder" "B") (.int 0) ∈ l_F ∧ Cond.arrayOf (.field (l_tm 18) "java/lang/String" "value" "[B") .byte ∈ l_F ∧ Cond.eq (.length (.field (l_tm 18) "java/lang/String" "value" "[B")) (.int (Int32.ofNat (k_sb.getD 18 []).length)) ∈ l_F ∧ ∀ j, j < (k_sb.getD 18 []).length → Cond.eq (.elem (.field (l_tm 18) "java/lang/String" "value" "[B") (.int (Int32.ofNat j))) (.int ((k_sb.getD 18 []).getD j 0)) ∈ l_F := by
  refine ⟨List.mem_of_getElem? (i := 355) rfl, List.mem_of_getElem? (i := 356) rfl, List.mem_of_getElem? (i := 357) rfl, List.mem_of_getElem? (i := 358) rfl, ?_⟩
  intro j hj
  have hj2 : j < 4 := hj
  match j, hj2 with
  | 0, _ => exact List.mem_of_getElem? (i := 359) rfl
  | 1, _ => exact List.mem_of_getElem? (i := 360) rfl
  | 2, _ => exact List.mem_of_getElem? (i := 361) rfl
  | 3, _ => exact List.mem_of_getElem? (i := 362) rfl
  | j + 4, h => omega
set_option maxRecDepth 20000 in
theorem l_s19 : Cond.exactly (l_tm 19) "java/lang/String" ∈ l_F ∧ Cond.eq (.field (l_tm 19) "java/lang/String" "coder" "B") (.int 0) ∈ l_F ∧ Cond.arrayOf (.field (l_tm 19) "java/lang/String" "value" "[B") .byte ∈ l_F ∧ Cond.eq (.length (.field (l_tm 19) "java/lang/String" "value" "[B")) (.int (Int32.ofNat (k_sb.getD 19 []).length)) ∈ l_F ∧ ∀ j, j < (k_sb.getD 19 []).length → Cond.eq (.elem (.field (l_tm 19) "java/lang/String" "value" "[B") (.int (Int32.ofNat j))) (.int ((k_sb.getD 19 []).getD j 0)) ∈ l_F := by
  refine ⟨List.mem_of_getElem? (i := 363) rfl, List.mem_of_getElem? (i := 364) rfl, List.mem_of_getElem? (i := 365) rfl, List.mem_of_getElem? (i := 366) rfl, ?_⟩
  intro j hj
  have hj2 : j < 4 := hj
  match j, hj2 with
  | 0, _ => exact List.mem_of_getElem? (i := 367) rfl
  | 1, _ => exact List.mem_of_getElem? (i := 368) rfl
  | 2, _ => exact List.mem_of_getElem? (i := 369) rfl
  | 3, _ => exact List.mem_of_getElem? (i := 370) rfl
  | j + 4, h => omega
set_option maxRecDepth 20000 in
theorem l_s20 : Cond.exactly (l_tm 20) "java/lang/String" ∈ l_F ∧ Cond.eq (.field (l_tm 20) "java/lang/String" "coder" "B") (.int 0) ∈ l_F ∧ Cond.arrayOf (.field (l_tm 20) "java/lang/String" "value" "[B") .byte ∈ l_F ∧ Cond.eq (.length (.field (l_tm 20) "java/lang/String" "value" "[B")) (.int (Int32.ofNat (k_sb.getD 20 []).length)) ∈ l_F ∧ ∀ j, j < (k_sb.getD 20 []).length → Cond.eq (.elem (.field (l_tm 20) "java/lang/String" "value" "[B") (.int (Int32.ofNat j))) (.int ((k_sb.getD 20 []).getD j 0)) ∈ l_F := by
  refine ⟨List.mem_of_getElem? (i := 371) rfl, List.mem_of_getElem? (i := 372) rfl, List.mem_of_getElem? (i := 373) rfl, List.mem_of_getElem? (i := 374) rfl, ?_⟩
  intro j hj
  have hj2 : j < 4 := hj
  match j, hj2 with
  | 0, _ => exact List.mem_of_getElem? (i := 375) rfl
  | 1, _ => exact List.mem_of_getElem? (i := 376) rfl
  | 2, _ => exact List.mem_of_getElem? (i := 377) rfl
  | 3, _ => exact List.mem_of_getElem? (i := 378) rfl
  | j + 4, h => omega
set_option maxRecDepth 20000 in
theorem l_s21 : Cond.exactly (l_tm 21) "java/lang/String" ∈ l_F ∧ Cond.eq (.field (l_tm 21) "java/lang/String" "coder" "B") (.int 0) ∈ l_F ∧ Cond.arrayOf (.field (l_tm 21) "java/lang/String" "value" "[B") .byte ∈ l_F ∧ Cond.eq (.length (.field (l_tm 21) "java/lang/String" "value" "[B")) (.int (Int32.ofNat (k_sb.getD 21 []).length)) ∈ l_F ∧ ∀ j, j < (k_sb.getD 21 []).length → Cond.eq (.elem (.field (l_tm 21) "java/lang/String" "value" "[B") (.int (Int32.ofNat j))) (.int ((k_sb.getD 21 []).getD j 0)) ∈ l_F := by
  refine ⟨List.mem_of_getElem? (i := 379) rfl, List.mem_of_getElem? (i := 380) rfl, List.mem_of_getElem? (i := 381) rfl, List.mem_of_getElem? (i := 382) rfl, ?_⟩
  intro j hj
  have hj2 : j < 4 := hj
  match j, hj2 with
  | 0, _ => exact List.mem_of_getElem? (i := 383) rfl
  | 1, _ => exact List.mem_of_getElem? (i := 384) rfl
  | 2, _ => exact List.mem_of_getElem? (i := 385) rfl
  | 3, _ => exact List.mem_of_getElem? (i := 386) rfl
  | j + 4, h => omega
set_option maxRecDepth 20000 in
theorem l_s22 : Cond.exactly (l_tm 22) "java/lang/String" ∈ l_F ∧ Cond.eq (.field (l_tm 22) "java/lang/String" "coder" "B") (.int 0) ∈ l_F ∧ Cond.arrayOf (.field (l_tm 22) "java/lang/String" "value" "[B") .byte ∈ l_F ∧ Cond.eq (.length (.field (l_tm 22) "java/lang/String" "value" "[B")) (.int (Int32.ofNat (k_sb.getD 22 []).length)) ∈ l_F ∧ ∀ j, j < (k_sb.getD 22 []).length → Cond.eq (.elem (.field (l_tm 22) "java/lang/String" "value" "[B") (.int (Int32.ofNat j))) (.int ((k_sb.getD 22 []).getD j 0)) ∈ l_F := by
  refine ⟨List.mem_of_getElem? (i := 387) rfl, List.mem_of_getElem? (i := 388) rfl, List.mem_of_getElem? (i := 389) rfl, List.mem_of_getElem? (i := 390) rfl, ?_⟩
  intro j hj
  have hj2 : j < 5 := hj
  match j, hj2 with
  | 0, _ => exact List.mem_of_getElem? (i := 391) rfl
  | 1, _ => exact List.mem_of_getElem? (i := 392) rfl
  | 2, _ => exact List.mem_of_getElem? (i := 393) rfl
  | 3, _ => exact List.mem_of_getElem? (i := 394) rfl
  | 4, _ => exact List.mem_of_getElem? (i := 395) rfl
  | j + 5, h => omega
set_option maxRecDepth 20000 in
theorem l_s23 : Cond.exactly (l_tm 23) "java/lang/String" ∈ l_F ∧ Cond.eq (.field (l_tm 23) "java/lang/String" "coder" "B") (.int 0) ∈ l_F ∧ Cond.arrayOf (.field (l_tm 23) "java/lang/String" "value" "[B") .byte ∈ l_F ∧ Cond.eq (.length (.field (l_tm 23) "java/lang/String" "value" "[B")) (.int (Int32.ofNat (k_sb.getD 23 []).length)) ∈ l_F ∧ ∀ j, j < (k_sb.getD 23 []).length → Cond.eq (.elem (.field (l_tm 23) "java/lang/String" "value" "[B") (.int (Int32.ofNat j))) (.int ((k_sb.getD 23 []).getD j 0)) ∈ l_F := by
  refine ⟨List.mem_of_getElem? (i := 396) rfl, List.mem_of_getElem? (i := 397) rfl, List.mem_of_getElem? (i := 398) rfl, List.mem_of_getElem? (i := 399) rfl, ?_⟩
  intro j hj
  have hj2 : j < 4 := hj
  match j, hj2 with
  | 0, _ => exact List.mem_of_getElem? (i := 400) rfl
  | 1, _ => exact List.mem_of_getElem? (i := 401) rfl
  | 2, _ => exact List.mem_of_getElem? (i := 402) rfl
  | 3, _ => exact List.mem_of_getElem? (i := 403) rfl
  | j + 4, h => omega
set_option maxRecDepth 20000 in
theorem l_s24 : Cond.exactly (l_tm 24) "java/lang/String" ∈ l_F ∧ Cond.eq (.field (l_tm 24) "java/lang/String" "coder" "B") (.int 0) ∈ l_F ∧ Cond.arrayOf (.field (l_tm 24) "java/lang/String" "value" "[B") .byte ∈ l_F ∧ Cond.eq (.length (.field (l_tm 24) "java/lang/String" "value" "[B")) (.int (Int32.ofNat (k_sb.getD 24 []).length)) ∈ l_F ∧ ∀ j, j < (k_sb.getD 24 []).length → Cond.eq (.elem (.field (l_tm 24) "java/lang/String" "value" "[B") (.int (Int32.ofNat j))) (.int ((k_sb.getD 24 []).getD j 0)) ∈ l_F := by
  refine ⟨List.mem_of_getElem? (i := 404) rfl, List.mem_of_getElem? (i := 405) rfl, List.mem_of_getElem? (i := 406) rfl, List.mem_of_getElem? (i := 407) rfl, ?_⟩
  intro j hj
  have hj2 : j < 4 := hj
  match j, hj2 with
  | 0, _ => exact List.mem_of_getElem? (i := 408) rfl
  | 1, _ => exact List.mem_of_getElem? (i := 409) rfl
  | 2, _ => exact List.mem_of_getElem? (i := 410) rfl
  | 3, _ => exact List.mem_of_getElem? (i := 411) rfl
  | j + 4, h => omega
set_option maxRecDepth 20000 in
theorem l_s25 : Cond.exactly (l_tm 25) "java/lang/String" ∈ l_F ∧ Cond.eq (.field (l_tm 25) "java/lang/String" "coder" "B") (.int 0) ∈ l_F ∧ Cond.arrayOf (.field (l_tm 25) "java/lang/String" "value" "[B") .byte ∈ l_F ∧ Cond.eq (.length (.field (l_tm 25) "java/lang/String" "value" "[B")) (.int (Int32.ofNat (k_sb.getD 25 []).length)) ∈ l_F ∧ ∀ j, j < (k_sb.getD 25 []).length → Cond.eq (.elem (.field (l_tm 25) "java/lang/String" "value" "[B") (.int (Int32.ofNat j))) (.int ((k_sb.getD 25 []).getD j 0)) ∈ l_F := by
  refine ⟨List.mem_of_getElem? (i := 412) rfl, List.mem_of_getElem? (i := 413) rfl, List.mem_of_getElem? (i := 414) rfl, List.mem_of_getElem? (i := 415) rfl, ?_⟩
  intro j hj
  have hj2 : j < 5 := hj
  match j, hj2 with
  | 0, _ => exact List.mem_of_getElem? (i := 416) rfl
  | 1, _ => exact List.mem_of_getElem? (i := 417) rfl
  | 2, _ => exact List.mem_of_getElem? (i := 418) rfl
  | 3, _ => exact List.mem_of_getElem? (i := 419) rfl
  | 4, _ => exact List.mem_of_getElem? (i := 420) rfl
  | j + 5, h => omega
set_option maxRecDepth 20000 in
theorem l_s26 : Cond.exactly (l_tm 26) "java/lang/String" ∈ l_F ∧ Cond.eq (.field (l_tm 26) "java/lang/String" "coder" "B") (.int 0) ∈ l_F ∧ Cond.arrayOf (.field (l_tm 26) "java/lang/String" "value" "[B") .byte ∈ l_F ∧ Cond.eq (.length (.field (l_tm 26) "java/lang/String" "value" "[B")) (.int (Int32.ofNat (k_sb.getD 26 []).length)) ∈ l_F ∧ ∀ j, j < (k_sb.getD 26 []).length → Cond.eq (.elem (.field (l_tm 26) "java/lang/String" "value" "[B") (.int (Int32.ofNat j))) (.int ((k_sb.getD 26 []).getD j 0)) ∈ l_F := by
  refine ⟨List.mem_of_getElem? (i := 421) rfl, List.mem_of_getElem? (i := 422) rfl, List.mem_of_getElem? (i := 423) rfl, List.mem_of_getElem? (i := 424) rfl, ?_⟩
  intro j hj
  have hj2 : j < 3 := hj
  match j, hj2 with
  | 0, _ => exact List.mem_of_getElem? (i := 425) rfl
  | 1, _ => exact List.mem_of_getElem? (i := 426) rfl
  | 2, _ => exact List.mem_of_getElem? (i := 427) rfl
  | j + 3, h => omega
set_option maxRecDepth 20000 in
theorem l_s27 : Cond.exactly (l_tm 27) "java/lang/String" ∈ l_F ∧ Cond.eq (.field (l_tm 27) "java/lang/String" "coder" "B") (.int 0) ∈ l_F ∧ Cond.arrayOf (.field (l_tm 27) "java/lang/String" "value" "[B") .byte ∈ l_F ∧ Cond.eq (.length (.field (l_tm 27) "java/lang/String" "value" "[B")) (.int (Int32.ofNat (k_sb.getD 27 []).length)) ∈ l_F ∧ ∀ j, j < (k_sb.getD 27 []).length → Cond.eq (.elem (.field (l_tm 27) "java/lang/String" "value" "[B") (.int (Int32.ofNat j))) (.int ((k_sb.getD 27 []).getD j 0)) ∈ l_F := by
  refine ⟨List.mem_of_getElem? (i := 428) rfl, List.mem_of_getElem? (i := 429) rfl, List.mem_of_getElem? (i := 430) rfl, List.mem_of_getElem? (i := 431) rfl, ?_⟩
  intro j hj
  have hj2 : j < 4 := hj
  match j, hj2 with
  | 0, _ => exact List.mem_of_getElem? (i := 432) rfl
  | 1, _ => exact List.mem_of_getElem? (i := 433) rfl
  | 2, _ => exact List.mem_of_getElem? (i := 434) rfl
  | 3, _ => exact List.mem_of_getElem? (i := 435) rfl
  | j + 4, h => omega
set_option maxRecDepth 20000 in
theorem l_s28 : Cond.exactly (l_tm 28) "java/lang/String" ∈ l_F ∧ Cond.eq (.field (l_tm 28) "java/lang/String" "coder" "B") (.int 0) ∈ l_F ∧ Cond.arrayOf (.field (l_tm 28) "java/lang/String" "value" "[B") .byte ∈ l_F ∧ Cond.eq (.length (.field (l_tm 28) "java/lang/String" "value" "[B")) (.int (Int32.ofNat (k_sb.getD 28 []).length)) ∈ l_F ∧ ∀ j, j < (k_sb.getD 28 []).length → Cond.eq (.elem (.field (l_tm 28) "java/lang/String" "value" "[B") (.int (Int32.ofNat j))) (.int ((k_sb.getD 28 []).getD j 0)) ∈ l_F := by
  refine ⟨List.mem_of_getElem? (i := 436) rfl, List.mem_of_getElem? (i := 437) rfl, List.mem_of_getElem? (i := 438) rfl, List.mem_of_getElem? (i := 439) rfl, ?_⟩
  intro j hj
  have hj2 : j < 4 := hj
  match j, hj2 with
  | 0, _ => exact List.mem_of_getElem? (i := 440) rfl
  | 1, _ => exact List.mem_of_getElem? (i := 441) rfl
  | 2, _ => exact List.mem_of_getElem? (i := 442) rfl
  | 3, _ => exact List.mem_of_getElem? (i := 443) rfl
  | j + 4, h => omega
set_option maxRecDepth 20000 in
theorem l_s29 : Cond.exactly (l_tm 29) "java/lang/String" ∈ l_F ∧ Cond.eq (.field (l_tm 29) "java/lang/String" "coder" "B") (.int 0) ∈ l_F ∧ Cond.arrayOf (.field (l_tm 29) "java/lang/String" "value" "[B") .byte ∈ l_F ∧ Cond.eq (.length (.field (l_tm 29) "java/lang/String" "value" "[B")) (.int (Int32.ofNat (k_sb.getD 29 []).length)) ∈ l_F ∧ ∀ j, j < (k_sb.getD 29 []).length → Cond.eq (.elem (.field (l_tm 29) "java/lang/String" "value" "[B") (.int (Int32.ofNat j))) (.int ((k_sb.getD 29 []).getD j 0)) ∈ l_F := by
  refine ⟨List.mem_of_getElem? (i := 444) rfl, List.mem_of_getElem? (i := 445) rfl, List.mem_of_getElem? (i := 446) rfl, List.mem_of_getElem? (i := 447) rfl, ?_⟩
  intro j hj
  have hj2 : j < 4 := hj
  match j, hj2 with
  | 0, _ => exact List.mem_of_getElem? (i := 448) rfl
  | 1, _ => exact List.mem_of_getElem? (i := 449) rfl
  | 2, _ => exact List.mem_of_getElem? (i := 450) rfl
  | 3, _ => exact List.mem_of_getElem? (i := 451) rfl
  | j + 4, h => omega
set_option maxRecDepth 20000 in
theorem l_s30 : Cond.exactly (l_tm 30) "java/lang/String" ∈ l_F ∧ Cond.eq (.field (l_tm 30) "java/lang/String" "coder" "B") (.int 0) ∈ l_F ∧ Cond.arrayOf (.field (l_tm 30) "java/lang/String" "value" "[B") .byte ∈ l_F ∧ Cond.eq (.length (.field (l_tm 30) "java/lang/String" "value" "[B")) (.int (Int32.ofNat (k_sb.getD 30 []).length)) ∈ l_F ∧ ∀ j, j < (k_sb.getD 30 []).length → Cond.eq (.elem (.field (l_tm 30) "java/lang/String" "value" "[B") (.int (Int32.ofNat j))) (.int ((k_sb.getD 30 []).getD j 0)) ∈ l_F := by
  refine ⟨List.mem_of_getElem? (i := 452) rfl, List.mem_of_getElem? (i := 453) rfl, List.mem_of_getElem? (i := 454) rfl, List.mem_of_getElem? (i := 455) rfl, ?_⟩
  intro j hj
  have hj2 : j < 5 := hj
  match j, hj2 with
  | 0, _ => exact List.mem_of_getElem? (i := 456) rfl
  | 1, _ => exact List.mem_of_getElem? (i := 457) rfl
  | 2, _ => exact List.mem_of_getElem? (i := 458) rfl
  | 3, _ => exact List.mem_of_getElem? (i := 459) rfl
  | 4, _ => exact List.mem_of_getElem? (i := 460) rfl
  | j + 5, h => omega
theorem l_str : ∀ i, i < 31 → Cond.exactly (l_tm i) "java/lang/String" ∈ l_F ∧ Cond.eq (.field (l_tm i) "java/lang/String" "coder" "B") (.int 0) ∈ l_F ∧ Cond.arrayOf (.field (l_tm i) "java/lang/String" "value" "[B") .byte ∈ l_F ∧ Cond.eq (.length (.field (l_tm i) "java/lang/String" "value" "[B")) (.int (Int32.ofNat (k_sb.getD i []).length)) ∈ l_F ∧ ∀ j, j < (k_sb.getD i []).length → Cond.eq (.elem (.field (l_tm i) "java/lang/String" "value" "[B") (.int (Int32.ofNat j))) (.int ((k_sb.getD i []).getD j 0)) ∈ l_F := by
  intro i hi
  match i, hi with
  | 0, _ => exact l_s0
  | 1, _ => exact l_s1
  | 2, _ => exact l_s2
  | 3, _ => exact l_s3
  | 4, _ => exact l_s4
  | 5, _ => exact l_s5
  | 6, _ => exact l_s6
  | 7, _ => exact l_s7
  | 8, _ => exact l_s8
  | 9, _ => exact l_s9
  | 10, _ => exact l_s10
  | 11, _ => exact l_s11
  | 12, _ => exact l_s12
  | 13, _ => exact l_s13
  | 14, _ => exact l_s14
  | 15, _ => exact l_s15
  | 16, _ => exact l_s16
  | 17, _ => exact l_s17
  | 18, _ => exact l_s18
  | 19, _ => exact l_s19
  | 20, _ => exact l_s20
  | 21, _ => exact l_s21
  | 22, _ => exact l_s22
  | 23, _ => exact l_s23
  | 24, _ => exact l_s24
  | 25, _ => exact l_s25
  | 26, _ => exact l_s26
  | 27, _ => exact l_s27
  | 28, _ => exact l_s28
  | 29, _ => exact l_s29
  | 30, _ => exact l_s30
  | i + 31, h => omega
theorem l_sr : ∀ i, i < 31 → ∀ q, k_st[i]? = some q → Cond.stringRef q.1 q.2.1 q.2.2 ∈ lw_tbl := by
  intro i hi q hq
  match i, hi, hq with
  | 0, _, hq => cases hq; exact (tm3 (List.mem_of_getElem? (i := 186) rfl))
  | 1, _, hq => cases hq; exact (tm3 (List.mem_of_getElem? (i := 235) rfl))
  | 2, _, hq => cases hq; exact (tm4 (List.mem_of_getElem? (i := 97) rfl))
  | 3, _, hq => cases hq; exact (tm4 (List.mem_of_getElem? (i := 159) rfl))
  | 4, _, hq => cases hq; exact (tm4 (List.mem_of_getElem? (i := 201) rfl))
  | 5, _, hq => cases hq; exact (tm5 (List.mem_of_getElem? (i := 109) rfl))
  | 6, _, hq => cases hq; exact (tm5 (List.mem_of_getElem? (i := 154) rfl))
  | 7, _, hq => cases hq; exact (tm7 (List.mem_of_getElem? (i := 237) rfl))
  | 8, _, hq => cases hq; exact (tm8 (List.mem_of_getElem? (i := 3) rfl))
  | 9, _, hq => cases hq; exact (tm8 (List.mem_of_getElem? (i := 4) rfl))
  | 10, _, hq => cases hq; exact (tm8 (List.mem_of_getElem? (i := 5) rfl))
  | 11, _, hq => cases hq; exact (tm8 (List.mem_of_getElem? (i := 6) rfl))
  | 12, _, hq => cases hq; exact (tm8 (List.mem_of_getElem? (i := 7) rfl))
  | 13, _, hq => cases hq; exact (tm8 (List.mem_of_getElem? (i := 8) rfl))
  | 14, _, hq => cases hq; exact (tm8 (List.mem_of_getElem? (i := 9) rfl))
  | 15, _, hq => cases hq; exact (tm8 (List.mem_of_getElem? (i := 37) rfl))
  | 16, _, hq => cases hq; exact (tm8 (List.mem_of_getElem? (i := 73) rfl))
  | 17, _, hq => cases hq; exact (tm8 (List.mem_of_getElem? (i := 78) rfl))
  | 18, _, hq => cases hq; exact (tm8 (List.mem_of_getElem? (i := 83) rfl))
  | 19, _, hq => cases hq; exact (tm8 (List.mem_of_getElem? (i := 84) rfl))
  | 20, _, hq => cases hq; exact (tm8 (List.mem_of_getElem? (i := 85) rfl))
  | 21, _, hq => cases hq; exact (tm8 (List.mem_of_getElem? (i := 86) rfl))
  | 22, _, hq => cases hq; exact (tm8 (List.mem_of_getElem? (i := 87) rfl))
  | 23, _, hq => cases hq; exact (tm8 (List.mem_of_getElem? (i := 88) rfl))
  | 24, _, hq => cases hq; exact (tm8 (List.mem_of_getElem? (i := 89) rfl))
  | 25, _, hq => cases hq; exact (tm8 (List.mem_of_getElem? (i := 90) rfl))
  | 26, _, hq => cases hq; exact (tm8 (List.mem_of_getElem? (i := 99) rfl))
  | 27, _, hq => cases hq; exact (tm8 (List.mem_of_getElem? (i := 100) rfl))
  | 28, _, hq => cases hq; exact (tm8 (List.mem_of_getElem? (i := 105) rfl))
  | 29, _, hq => cases hq; exact (tm8 (List.mem_of_getElem? (i := 106) rfl))
  | 30, _, hq => cases hq; exact (tm8 (List.mem_of_getElem? (i := 107) rfl))
  | i + 31, h, _ => omega
theorem l_nl : ∀ q ∈ k_nl, Cond.methodLinkNest q.1 q.2.1 q.2.2.1 q.2.2.2 ∈ lw_tbl := by
  intro q hq
  unfold k_nl at hq
  simp only [List.mem_cons, List.not_mem_nil, or_false] at hq
  rcases hq with rfl | rfl | rfl | rfl | rfl | rfl | rfl | rfl | rfl
  · exact (tm1 (List.mem_of_getElem? (i := 38) rfl))
  · exact (tm1 (List.mem_of_getElem? (i := 164) rfl))
  · exact (tm2 (List.mem_of_getElem? (i := 37) rfl))
  · exact (tm2 (List.mem_of_getElem? (i := 68) rfl))
  · exact (tm2 (List.mem_of_getElem? (i := 186) rfl))
  · exact (tm3 (List.mem_of_getElem? (i := 52) rfl))
  · exact (tm4 (List.mem_of_getElem? (i := 215) rfl))
  · exact (tm5 (List.mem_of_getElem? (i := 63) rfl))
  · exact (tm6 (List.mem_of_getElem? (i := 51) rfl))
theorem l_len : ∀ i, i < 31 → (k_sb.getD i []).length < 2 ^ 31 := by decide +kernel
theorem l_S {s : State} {args : Array Value} {A : Nat → Prop} (hF : ∀ w ∈ l_F, w.before args s = true) (hA : ∀ a : Nat, a < s.heap.size → ¬ A a) :
    ∃ adK adV : Nat → Nat, ∀ i, i < 31 → (l_tm i).eval args s none [] s = some (.ref (adK i)) ∧ k_Str (k_sb.getD i []) (adK i) (adV i) A s s.heap := by
  have h0 : ∀ i : Nat, ∃ q : Nat × Nat, i < 31 → (l_tm i).eval args s none [] s = some (.ref q.1) ∧ k_Str (k_sb.getD i []) q.1 q.2 A s s.heap := by
    intro i
    by_cases hi : i < 31
    · obtain ⟨e1, e2, e3, e4, e5⟩ := l_str i hi
      have g1 := hF _ e1
      have g2 := hF _ e2
      have g3 := hF _ e3
      have g4 := hF _ e4
      obtain ⟨a, c, cA, kA, q1, q2, q3, q4, q5, q6, -⟩ := Cond.exactly_spec (args := args) (first := s) (o := none) (s := s) (idx := []) (t := l_tm i) (cls := "java/lang/String") g1
      obtain ⟨t, ht, hT⟩ := va_Tof (f := fun j => .int ((k_sb.getD i []).getD j 0)) (A := A) (l_len i hi) g3 (va_eqt g4) (fun j hj => va_eqt (hF _ (e5 j hj))) hA
      exact ⟨(a, t), fun _ => ⟨q1, va_Oof g1 q1 hA, vk_OFof q1 (va_eqt g2) hA, vk_OFof q1 ht hA, hT⟩⟩
    · exact ⟨(0, 0), fun h => absurd h hi⟩
  obtain ⟨ad, had⟩ := Classical.axiomOfChoice h0
  exact ⟨fun i => (ad i).1, fun i => (ad i).2, fun i hi => had i hi⟩
theorem l_cs {C T : String} {s : State} {args : Array Value} (h : (Cond.castable C T).before args s = true) : k_Cs C T s := by
  simp only [Cond.before, Cond.holds, Cond.value] at h
  cases h1 : s.vm.findClass C with
  | none => simp [h1] at h
  | some c =>
    cases h2 : s.vm.findClass T with
    | none => simp [h1, h2] at h
    | some t => exact ⟨c, t, h1, h2, by simpa [h1, h2] using h⟩
def l_ad (b aS aF : Nat) (adK adV : Nat → Nat) : Nat → Nat := fun p => if p = 5000000 then b else if p = 1000200 then aF else if p = 1000100 then aS else if p < 2000000 then adK (p - 1000000) else adV (p - 2000000)
theorem l_SF {s : State} {args : Array Value} {A : Nat → Prop} (b : Nat) (htl : ∀ w ∈ lw_tbl, w.before args s = true) (hts : ∀ w ∈ k_tb, w.before args s = true) (hF : ∀ w ∈ l_F, w.before args s = true) (hA : ∀ a : Nat, a < s.heap.size → ¬ A a) : ∃ ad : Nat → Nat, ad 5000000 = b ∧ k_SF ad A s s.heap := by
  obtain ⟨adK, adV, hS⟩ := l_S hF hA
  obtain ⟨aS, h1, h2⟩ := va_Tof (args := args) (tm := .static "LullabyPit$Survey" "STEPS" "[I") (ty := .int) (N := 4) (f := fun j => .int (k_stp.getD j 0)) (A := A) (by decide) (hF _ (List.mem_of_getElem? (i := 12) rfl)) (va_eqt (hF _ (List.mem_of_getElem? (i := 13) rfl))) (fun j hj => va_eqt (hF _ (by
    match j, hj with
    | 0, _ => exact List.mem_of_getElem? (i := 14) rfl
    | 1, _ => exact List.mem_of_getElem? (i := 15) rfl
    | 2, _ => exact List.mem_of_getElem? (i := 16) rfl
    | 3, _ => exact List.mem_of_getElem? (i := 17) rfl
    | j + 4, hj => omega))) hA
  have hZ := va_Zof (htl _ (tm6 (List.mem_of_getElem? (i := 34) rfl))) (hts _ (k_me (tm1 (List.mem_of_getElem? (i := 9) rfl)) rfl)) h1 hA
  have hcs := va_Zof (htl _ (tm4 (List.mem_of_getElem? (i := 9) rfl))) (hts _ (k_me (tm1 (List.mem_of_getElem? (i := 20) rfl)) rfl)) (va_eqi (z := 1) (hF _ (List.mem_of_getElem? (i := 6) rfl))) hA
  have hU := vx_Zqof (C := Bundle.tN) (n := "UNASSIGNED_STACK") (d := Bundle.steD) (htl _ (tm3 (List.mem_of_getElem? (i := 172) rfl))) (hts _ (k_me (tm1 (List.mem_of_getElem? (i := 15) rfl)) rfl)) (hF _ (List.mem_of_getElem? (i := 4) rfl)) hA
  have hN := vx_Zqof (C := Bundle.tN) (n := "SUPPRESSED_SENTINEL") (d := Bundle.listD) (htl _ (tm3 (List.mem_of_getElem? (i := 174) rfl))) (hts _ (k_me (tm1 (List.mem_of_getElem? (i := 15) rfl)) rfl)) (hF _ (List.mem_of_getElem? (i := 5) rfl)) hA
  have hQ := va_Zqof (C := "jdk/internal/util/Preconditions") (n := "SIOOBE_FORMATTER") (d := "Ljava/util/function/BiFunction;") (htl _ (tm4 (List.mem_of_getElem? (i := 25) rfl))) (hts _ (k_me (tm1 (List.mem_of_getElem? (i := 22) rfl)) rfl)) (hF _ (List.mem_of_getElem? (i := 7) rfl)) hA
  obtain ⟨aF, hQ⟩ : ∃ aF : Nat, va_Z "jdk/internal/util/Preconditions" "SIOOBE_FORMATTER" "Ljava/util/function/BiFunction;" .null A s s.heap ∨ va_Z "jdk/internal/util/Preconditions" "SIOOBE_FORMATTER" "Ljava/util/function/BiFunction;" (.ref aF) A s s.heap := by
    rcases hQ with h | ⟨t, h⟩
    · exact ⟨0, Or.inl h⟩
    · exact ⟨t, Or.inr h⟩
  refine ⟨l_ad b aS aF adK adV, rfl, ?_, ?_, fun q hq => va_Nw.of rfl (htl _ (l_nl q hq)), ⟨hZ, h2⟩, hcs, hU, hN, hQ, ?_⟩
  · intro i bs hi
    have hi2 : i < 31 := (List.getElem?_eq_some_iff.mp hi).1
    have e1 : l_ad b aS aF adK adV (1000000 + i) = adK i := by
      unfold l_ad
      rw [if_neg (by omega), if_neg (by omega), if_neg (by omega), if_pos (by omega), Nat.add_sub_cancel_left]
    have e2 : l_ad b aS aF adK adV (2000000 + i) = adV i := by
      unfold l_ad
      rw [if_neg (by omega), if_neg (by omega), if_neg (by omega), if_neg (by omega), Nat.add_sub_cancel_left]
    have e3 : k_sb.getD i [] = bs := by rw [List.getD_eq_getElem?_getD, hi]; rfl
    rw [e1, e2, ← e3]
    exact (hS i hi2).2
  · intro i q hq
    have hi2 : i < 31 := (List.getElem?_eq_some_iff.mp hq).1
    have e1 : l_ad b aS aF adK adV (1000000 + i) = adK i := by
      unfold l_ad
      rw [if_neg (by omega), if_neg (by omega), if_neg (by omega), if_pos (by omega), Nat.add_sub_cancel_left]
    have e2 : l_tm i = .string q.1 q.2.1 := by unfold l_tm; rw [hq]
    rw [e1]
    refine vk_R.of (A := args) (htl _ (l_sr i hi2 q hq)) ?_
    rw [← e2]
    exact (hS i hi2).1
  · exact ⟨va_AO.of (htl _ (tm2 (List.mem_of_getElem? (i := 73) rfl))), va_Nc.of (hF _ (List.mem_of_getElem? (i := 44) rfl)), va_Nc.of (hF _ (List.mem_of_getElem? (i := 58) rfl)), l_cs (htl _ (tm3 (List.mem_of_getElem? (i := 147) rfl))), l_cs (htl _ (tm5 (List.mem_of_getElem? (i := 147) rfl))), l_cs (htl _ (tm5 (List.mem_of_getElem? (i := 102) rfl))), va_any rfl (htl _ (tm3 (List.mem_of_getElem? (i := 149) rfl))), va_any rfl (htl _ (tm3 (List.mem_of_getElem? (i := 151) rfl))), va_any rfl (htl _ (tm3 (List.mem_of_getElem? (i := 153) rfl)))⟩
/-- the empty picture -/
def l_h0 : k_H := ([], fun _ _ => 0, fun _ _ => 0, fun _ _ => none)
theorem l_entry {p : Program} {e : Env} {s : State} {m : MethodId} {below : List Frame} {meth : Method} {c : Code} (l : Launch) {b L : Nat} {xs : Nat → Int32} (hL : L ≤ 3072) (C0 : lw_At p s m meth c b L xs)
    (body : ∀ (X : k_X) (ad : Nat → Nat) (Q : State → Prop), X.l = l → X.R = room_1 → k_C X cL_law_ RL 8 ad → va_T .int (ad 5000000) L (fun j => .int (xs j)) X.A X.s X.s.heap → k_end X Q → k_W X 8 0 0 Q ad l_h0 0 [some (.ref 5000000), none, none, none, none, none, none, none] []) :
    W p l e room_1 s m #[Value.ref b] below meth c s.heap [] 0 0 (lw_Z below #[Value.ref b] s) (entryFrame m ([Value.ref b] : List Value).toArray 8) := by
  obtain ⟨hx, hb, hr, hml, hown, hts, hX, hbl, hlocks, hgv⟩ := C0
  have htk : ∀ w ∈ k_tb, w.before #[Value.ref b] s = true := fun w hw => hts w (List.mem_filter.mp hw).1
  have hF := flat_of_before _ hgv
  have hA : ∀ a : Nat, a < s.heap.size → ¬ (fun q : Nat => s.heap.size ≤ q) a := fun a h => Nat.not_le.mpr h
  obtain ⟨D, cA, hK⟩ := l_K hts htk
  obtain ⟨ad, hab, hSF⟩ := l_SF (A := fun q : Nat => s.heap.size ≤ q) b hts htk hF hA
  have hT : va_T .int b L (fun j => .int (xs j)) (fun q : Nat => s.heap.size ≤ q) s s.heap := by
    obtain ⟨scr, h1, h2, h3, h4, h5⟩ := hX
    exact ⟨scr, h1, h2, h3, by omega, by rw [h4], h5, Nat.not_le.mpr hbl⟩
  have hl := lv_entry ([.ref b]) (n := 8) (Nat.le_of_ble_eq_true rfl)
  rw [lg_entry_eq]
  generalize hG : (lg_sl ([.ref b]) ++ List.replicate (8 - (lg_sl ([.ref b])).length) Slot.unset).toArray = ls at hl ⊢
  have hl2 : lv_has ls 8 (lv_args 0 ([Value.ref 5000000].map (k_rl ad))) := by
    show lv_has ls 8 (lv_args 0 [Value.ref (ad 5000000)])
    rw [hab]
    exact hl
  have hlh := k_lh_e0 (av := [.ref 5000000]) hl2
  refine body (p, l, e, room_1, s, m, #[Value.ref b], below, meth, c, D, cA, fun q : Nat => s.heap.size ≤ q) ad (lw_Z below #[Value.ref b] s) rfl rfl ⟨hx, hb, hml, hown, htk, hK, fun q h => h, hlocks, hSF⟩ (by rw [hab]; exact hT) ?_ s.heap [] ls ?_ ?_ ?_ va_S.rf hlh
  · intro ad2 h2 cells slots lv hc hs C H locs ls2 hw hP hD hS hll
    exact va_forget (fun q hq => hS.2.2 q hq) (W.widen hc hs (lw_ret hx hb hr hlocks dL_law__2314))
  · exact ⟨fun p s h => by simp [l_h0] at h, fun p j q h => by cases h⟩
  · exact fun k q h => by simp [k_w, l_h0] at h
  · exact ⟨fun i j p q h => by simp [k_w, l_h0] at h, fun k q h => by simp [k_w, l_h0] at h⟩
