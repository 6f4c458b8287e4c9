/-- where a walk is: program, launch, environment, room, start, method, arguments, frames below, method, code; the tables' numbers; the arrays' classes; which cells may change -/
abbrev k_X : Type := Program × Launch × Env × Room × State × MethodId × Array Value × List Frame × Method × Code × va_G × (Nat → Nat) × (Nat → Prop)
abbrev k_X.p (X : k_X) : Program := X.1
abbrev k_X.l (X : k_X) : Launch := X.2.1
abbrev k_X.e (X : k_X) : Env := X.2.2.1
abbrev k_X.R (X : k_X) : Room := X.2.2.2.1
abbrev k_X.s (X : k_X) : State := X.2.2.2.2.1
abbrev k_X.m (X : k_X) : MethodId := X.2.2.2.2.2.1
abbrev k_X.a (X : k_X) : Array Value := X.2.2.2.2.2.2.1
abbrev k_X.b (X : k_X) : List Frame := X.2.2.2.2.2.2.2.1
abbrev k_X.meth (X : k_X) : Method := X.2.2.2.2.2.2.2.2.1
abbrev k_X.c (X : k_X) : Code := X.2.2.2.2.2.2.2.2.2.1
abbrev k_X.D (X : k_X) : va_G := X.2.2.2.2.2.2.2.2.2.2.1
abbrev k_X.cA (X : k_X) : Nat → Nat := X.2.2.2.2.2.2.2.2.2.2.2.1
abbrev k_X.A (X : k_X) : Nat → Prop := X.2.2.2.2.2.2.2.2.2.2.2.2
abbrev k_Wx (X : k_X) (H : Heap) (locs : List Loc) (cells slots : Nat) (Q : State → Prop) (g : JFrame) : Prop := W X.p X.l X.e X.R X.s X.m X.a X.b X.meth X.c H locs cells slots Q g
/-- what never changes: constants' cells, statics (places from 1000000 on) -/
def k_st : List (String × Nat × String) := [("LullabyPit", 416, "no such number here"), ("LullabyPit$Pit", 88, "size seam water shaft crew store price order"), ("LullabyPit$Pit", 134, "end"), ("LullabyPit$Law", 69, "wide deep over open props bars kind shift least most"), ("LullabyPit$Program", 55, "dig prop pump shift sell again"), ("LullabyPit", 428, "no such CELL"), ("LullabyPit", 423, "no such ORDER"), ("LullabyPitModel", 234, "size"), ("LullabyPitModel", 235, "seam"), ("LullabyPitModel", 240, "water"), ("LullabyPitModel", 242, "shaft"), ("LullabyPitModel", 244, "crew"), ("LullabyPitModel", 245, "store"), ("LullabyPitModel", 246, "price"), ("LullabyPitModel", 250, "order"), ("LullabyPitModel", 225, "end"), ("LullabyPitModel", 308, "least"), ("LullabyPitModel", 313, "most"), ("LullabyPitModel", 294, "wide"), ("LullabyPitModel", 295, "deep"), ("LullabyPitModel", 297, "over"), ("LullabyPitModel", 299, "open"), ("LullabyPitModel", 301, "props"), ("LullabyPitModel", 303, "bars"), ("LullabyPitModel", 304, "kind"), ("LullabyPitModel", 306, "shift"), ("LullabyPitModel", 328, "dig"), ("LullabyPitModel", 330, "prop"), ("LullabyPitModel", 336, "pump"), ("LullabyPitModel", 338, "sell"), ("LullabyPitModel", 340, "again")]
def k_sb : List (List Int32) := [[110, 111, 32, 115, 117, 99, 104, 32, 110, 117, 109, 98, 101, 114, 32, 104, 101, 114, 101], [115, 105, 122, 101, 32, 115, 101, 97, 109, 32, 119, 97, 116, 101, 114, 32, 115, 104, 97, 102, 116, 32, 99, 114, 101, 119, 32, 115, 116, 111, 114, 101, 32, 112, 114, 105, 99, 101, 32, 111, 114, 100, 101, 114], [101, 110, 100], [119, 105, 100, 101, 32, 100, 101, 101, 112, 32, 111, 118, 101, 114, 32, 111, 112, 101, 110, 32, 112, 114, 111, 112, 115, 32, 98, 97, 114, 115, 32, 107, 105, 110, 100, 32, 115, 104, 105, 102, 116, 32, 108, 101, 97, 115, 116, 32, 109, 111, 115, 116], [100, 105, 103, 32, 112, 114, 111, 112, 32, 112, 117, 109, 112, 32, 115, 104, 105, 102, 116, 32, 115, 101, 108, 108, 32, 97, 103, 97, 105, 110], [110, 111, 32, 115, 117, 99, 104, 32, 67, 69, 76, 76], [110, 111, 32, 115, 117, 99, 104, 32, 79, 82, 68, 69, 82], [115, 105, 122, 101], [115, 101, 97, 109], [119, 97, 116, 101, 114], [115, 104, 97, 102, 116], [99, 114, 101, 119], [115, 116, 111, 114, 101], [112, 114, 105, 99, 101], [111, 114, 100, 101, 114], [101, 110, 100], [108, 101, 97, 115, 116], [109, 111, 115, 116], [119, 105, 100, 101], [100, 101, 101, 112], [111, 118, 101, 114], [111, 112, 101, 110], [112, 114, 111, 112, 115], [98, 97, 114, 115], [107, 105, 110, 100], [115, 104, 105, 102, 116], [100, 105, 103], [112, 114, 111, 112], [112, 117, 109, 112], [115, 101, 108, 108], [97, 103, 97, 105, 110]]
def k_nl : List (String × Nat × MethodName × String) := [("LullabyPit", 9, ⟨"LullabyPit$Tape", "<init>", "()V"⟩, "LullabyPit"), ("LullabyPit", 28, ⟨"LullabyPit$Law", "<init>", "()V"⟩, "LullabyPit"), ("LullabyPit", 59, ⟨"LullabyPit$Program", "<init>", "()V"⟩, "LullabyPit"), ("LullabyPit", 66, ⟨"LullabyPit$Past", "<init>", "()V"⟩, "LullabyPit"), ("LullabyPit", 100, ⟨"LullabyPit$Market", "<init>", "()V"⟩, "LullabyPit"), ("LullabyPit$Taps", 73, ⟨"LullabyPit", "isMusic", "(I)Z"⟩, "LullabyPit"), ("LullabyPit", 166, ⟨"LullabyPit$Program", "run", "(LLullabyPit$Program;LLullabyPit$Mine;III)V"⟩, "LullabyPit"), ("LullabyPit$Mine", 180, ⟨"LullabyPit", "isMusic", "(I)Z"⟩, "LullabyPit"), ("LullabyPit$Survey", 128, ⟨"LullabyPit", "rowOf", "(JI)I"⟩, "LullabyPit")]
def k_stp : List Int32 := [-8, -1, 1, 8]
/-- a text constant's cells -/
def k_Str (bs : List Int32) (a v : Nat) (A : Nat → Prop) (U : State) (H : Heap) : Prop := va_O "java/lang/String" a A U H ∧ va_OF "java/lang/String" "coder" "B" (.int 0) a A U H ∧ va_OF "java/lang/String" "value" "[B" (.ref v) a A U H ∧ va_T .byte v bs.length (fun j => .int (bs.getD j 0)) A U H
/-- classes: arrays of mines, which exceptions are which -/
def k_Cs (C T : String) (U : State) : Prop := ∃ c t : ClassId, U.vm.findClass C = some c ∧ U.vm.findClass T = some t ∧ U.vm.assignable c t = true
theorem k_Cs.moved {C T : String} {u U : State} (hvm : u.vm.Alike U.vm) (h : k_Cs C T u) : k_Cs C T U := by
  obtain ⟨c, t, h1, h2, h3⟩ := h
  exact ⟨c, t, by rw [hvm.findClass]; exact h1, by rw [hvm.findClass]; exact h2, by rw [hvm.assignable]; exact h3⟩
theorem k_Cs.word {C T : String} {U : State} {args : Array Value} (h : k_Cs C T U) : (Cond.castable C T).before args U = true := by
  obtain ⟨c, t, h1, h2, h3⟩ := h
  simp only [Cond.before, Cond.holds, Cond.value]
  simp [h1, h2, h3]
def k_IAE : String := "java/lang/IllegalArgumentException"
def k_NSE : String := "java/util/NoSuchElementException"
def k_IOO : String := "java/lang/IndexOutOfBoundsException"
def k_Dc (x : MethodName) (U : State) : Prop := (Cond.declares x).before #[] U = true
theorem k_Dc.use {x : MethodName} {A : Array Value} {U : State} (h : k_Dc x U) : (Cond.declares x).before A U = true := va_any rfl h
theorem k_Dc.moved {x : MethodName} {u U : State} (hvm : u.vm.Alike U.vm) (h : k_Dc x u) : k_Dc x U := by
  have h1 : (Cond.declares x).before #[] (u.setVm U.vm) = true := by
    rw [Cond.declares_setVm hvm]
    exact h
  have e := Cond.onTables_vm (A := #[]) (A' := #[]) (U := u) (U' := U) U.vm (Cond.declares x) rfl
  have hU : U.setVm U.vm = U := rfl
  rw [hU] at e
  unfold k_Dc
  rw [← e]
  exact h1
def k_dS (c : String) : MethodName := ⟨c, "<init>", "(Ljava/lang/String;)V"⟩
def k_SX (U : State) : Prop := va_AO "LullabyPit$Mine" U ∧ va_Nc k_IAE k_IOO U ∧ va_Nc k_IAE k_NSE U ∧ k_Cs k_IAE k_IAE U ∧ k_Cs k_NSE k_NSE U ∧ k_Cs k_IOO k_IOO U ∧ k_Dc (k_dS "java/lang/RuntimeException") U ∧ k_Dc (k_dS "java/lang/Exception") U ∧ k_Dc (k_dS "java/lang/Throwable") U
theorem k_SX.moved {u U : State} (hvm : u.vm.Alike U.vm) (h : k_SX u) : k_SX U := ⟨va_AO.moved hvm h.1, va_Nc.moved hvm h.2.1, va_Nc.moved hvm h.2.2.1, h.2.2.2.1.moved hvm, h.2.2.2.2.1.moved hvm, h.2.2.2.2.2.1.moved hvm, h.2.2.2.2.2.2.1.moved hvm, h.2.2.2.2.2.2.2.1.moved hvm, h.2.2.2.2.2.2.2.2.moved hvm⟩
def k_SF (ad : Nat → Nat) (A : Nat → Prop) (U : State) (H : Heap) : Prop :=
  (∀ (i : Nat) (bs : List Int32), k_sb[i]? = some bs → k_Str bs (ad (1000000 + i)) (ad (2000000 + i)) A U H) ∧
  (∀ (i : Nat) (q : String × Nat × String), k_st[i]? = some q → vk_R q.1 q.2.1 q.2.2 (ad (1000000 + i)) U) ∧
  (∀ q ∈ k_nl, va_Nw (.methodLinkNest q.1 q.2.1 q.2.2.1 q.2.2.2) U) ∧
  (va_Z "LullabyPit$Survey" "STEPS" "[I" (.ref (ad 1000100)) A U H ∧ va_T .int (ad 1000100) 4 (fun j => .int (k_stp.getD j 0)) A U H) ∧
  va_Z "java/lang/String" "COMPACT_STRINGS" "Z" (.int 1) A U H ∧
  vx_Zq Bundle.tN "UNASSIGNED_STACK" Bundle.steD A U H ∧ vx_Zq Bundle.tN "SUPPRESSED_SENTINEL" Bundle.listD A U H ∧
  (va_Z "jdk/internal/util/Preconditions" "SIOOBE_FORMATTER" "Ljava/util/function/BiFunction;" .null A U H ∨ va_Z "jdk/internal/util/Preconditions" "SIOOBE_FORMATTER" "Ljava/util/function/BiFunction;" (.ref (ad 1000200)) A U H) ∧ k_SX U
theorem k_SF.moved {ad : Nat → Nat} {A : Nat → Prop} {u U : State} {H : Heap} (hW : u.WarmedH U.vm) (h : k_SF ad A u H) : k_SF ad A U H := by
  obtain ⟨h1, h2, h3, ⟨h4, h5⟩, h6, h7, h8, h9, h10⟩ := h
  have hA := hW.alike
  exact ⟨fun i bs hi => ⟨va_O.moved hA (h1 i bs hi).1, va_OF.moved hA (h1 i bs hi).2.1, va_OF.moved hA (h1 i bs hi).2.2.1, va_T.moved hA (h1 i bs hi).2.2.2⟩, fun i q hq => (h2 i q hq).warm hW, fun q hq => va_Nw.warmM hW (h3 q hq), ⟨va_Z.moved hA h4, va_T.moved hA h5⟩, va_Z.moved hA h6, vx_Zq.moved hA h7, vx_Zq.moved hA h8, h9.elim (fun z => Or.inl (va_Z.moved hA z)) (fun z => Or.inr (va_Z.moved hA z)), k_SX.moved hA h10⟩
theorem k_SF.kept {ad : Nat → Nat} {A : Nat → Prop} {U : State} {H H1 : Heap} (h : k_SF ad A U H) (hq : ∀ a : Nat, a < H.size → ¬ A a → H1[a]? = H[a]?) : k_SF ad A U H1 := by
  obtain ⟨h1, h2, h3, ⟨h4, h5⟩, h6, h7, h8, h9, h10⟩ := h
  exact ⟨fun i bs hi => ⟨(h1 i bs hi).1.kept hq, (h1 i bs hi).2.1.kept hq, (h1 i bs hi).2.2.1.kept hq, (h1 i bs hi).2.2.2.kept hq⟩, h2, h3, ⟨h4.kept hq, h5.kept hq⟩, h6.kept hq, h7.kept hq, h8.kept hq, h9.elim (fun z => Or.inl (z.kept hq)) (fun z => Or.inr (z.kept hq)), h10⟩
theorem k_SF.narrow {ad : Nat → Nat} {A B : Nat → Prop} {U : State} {H : Heap} (h : k_SF ad A U H) (hAB : ∀ q, B q → A q) : k_SF ad B U H := by
  obtain ⟨h1, h2, h3, ⟨h4, h5⟩, h6, h7, h8, h9, h10⟩ := h
  exact ⟨fun i bs hi => ⟨(h1 i bs hi).1.narrow hAB, (h1 i bs hi).2.1.narrow hAB, (h1 i bs hi).2.2.1.narrow hAB, (h1 i bs hi).2.2.2.narrow hAB⟩, h2, h3, ⟨h4.narrow hAB, h5.narrow hAB⟩, h6.narrow hAB, h7.narrow hAB, h8.narrow hAB, h9.elim (fun z => Or.inl (z.narrow hAB)) (fun z => Or.inr (z.narrow hAB)), h10⟩
theorem k_SF.ad {ad ad' : Nat → Nat} {A : Nat → Prop} {U : State} {H : Heap} (h : k_SF ad A U H) (he : ∀ p, 1000000 ≤ p → ad' p = ad p) : k_SF ad' A U H := by
  obtain ⟨h1, h2, h3, ⟨h4, h5⟩, h6, h7, h8, h9, h10⟩ := h
  refine ⟨fun i bs hi => ?_, fun i q hq => ?_, h3, ⟨?_, ?_⟩, h6, h7, h8, ?_, h10⟩
  · rw [he _ (by omega), he _ (by omega)]; exact h1 i bs hi
  · rw [he _ (by omega)]; exact h2 i q hq
  · rw [he _ (by omega)]; exact h4
  · rw [he _ (by omega)]; exact h5
  · rw [he _ (by omega)]; exact h9
def k_C (X : k_X) (cc : ByteArray) (own : String) (nL : Nat) (ad : Nat → Nat) : Prop :=
  X.p.tables.exec = Jvm.exec ∧ X.c.code = cc ∧ X.c.maxLocals = nL ∧ X.s.vm.findClass own = some X.m.cls ∧ (∀ w ∈ k_tb, w.before X.a X.s = true) ∧ va_K X.D vwCl (k_tys X.cA) X.s ∧ (∀ q : Nat, X.s.heap.size ≤ q → X.A q) ∧ X.meth.locks = false ∧ k_SF ad X.A X.s X.s.heap
/-- THE JUDGEMENT: at pc, with these locals and this stack over this picture of the heap, the machine comes to Q -/
def k_W (X : k_X) (nL cells slots : Nat) (Q : State → Prop) (ad : Nat → Nat) (h : k_H) (pc : Nat) (lv : List (Option Value)) (st : List Value) : Prop :=
  ∀ (H : Heap) (locs : List Loc) (ls : Array Slot), k_wf h → va_P X.D vwCl (k_w ad X.cA h) H → va_D X.A (k_w ad X.cA h) → va_S X.A X.s.heap H locs → k_lh ad ls nL lv → k_Wx X H locs cells slots Q (F0 X.m pc ls (st.map (k_rl ad)))
section ROWS
variable {X : k_X} {cc : ByteArray} {own : String} {nL cells slots : Nat} {Q : State → Prop} {ad : Nat → Nat} {h : k_H} {pc pc' : Nat} {lv : List (Option Value)} {st : List Value}
theorem k_mask (bs : List Bool) (k : k_W X nL cells slots Q ad h pc (k_mk bs lv) st) : k_W X nL cells slots Q ad h pc lv st :=
  fun H locs ls hw hP hD hS hl => k H locs ls hw hP hD hS ⟨hl.1, hl.2.1, fun i v hv => hl.2.2 i v (k_mk_at bs lv i v hv)⟩
theorem r_iconst (C : k_C X cc own nL ad) {n : Int} {v : Int32} (hd : decode cc pc = .ok (.iconst n, 1)) (hn : pc + 1 = pc') (hv : Int32.ofInt n = v) (k : k_W X nL cells slots Q ad h pc' lv (.int v :: st)) : k_W X nL cells slots Q ad h pc lv st := by
  subst hn
  exact fun H locs ls hw hP hD hS hl => lv_iconst C.1 C.2.1 hd hv (k H locs ls hw hP hD hS hl)
theorem r_bipush (C : k_C X cc own nL ad) {n : Int} {v : Int32} (hd : decode cc pc = .ok (.bipush n, 2)) (hn : pc + 2 = pc') (hv : (Int8.ofInt n).toInt32 = v) (k : k_W X nL cells slots Q ad h pc' lv (.int v :: st)) : k_W X nL cells slots Q ad h pc lv st := by
  subst hn
  exact fun H locs ls hw hP hD hS hl => lv_bipush C.1 C.2.1 hd hv (k H locs ls hw hP hD hS hl)
theorem r_sipush (C : k_C X cc own nL ad) {n : Int} {v : Int32} (hd : decode cc pc = .ok (.sipush n, 3)) (hn : pc + 3 = pc') (hv : (Int16.ofInt n).toInt32 = v) (k : k_W X nL cells slots Q ad h pc' lv (.int v :: st)) : k_W X nL cells slots Q ad h pc lv st := by
  subst hn
  exact fun H locs ls hw hP hD hS hl => lv_sipush C.1 C.2.1 hd hv (k H locs ls hw hP hD hS hl)
theorem r_lconst (C : k_C X cc own nL ad) {n : Fin 2} {v : Int64} (hd : decode cc pc = .ok (.lconst n, 1)) (hn : pc + 1 = pc') (hv : Int64.ofNat (n : Nat) = v) (k : k_W X nL cells slots Q ad h pc' lv (.long v :: st)) : k_W X nL cells slots Q ad h pc lv st := by
  subst hn
  exact fun H locs ls hw hP hD hS hl => lv_lconst C.1 C.2.1 hd hv (k H locs ls hw hP hD hS hl)
theorem r_ldc (C : k_C X cc own nL ad) {ix : Nat} {v : Int32} (hd : decode cc pc = .ok (.ldc ix, 2)) (hn : pc + 2 = pc') (hm : Cond.constant own ix v ∈ k_tb) (k : k_W X nL cells slots Q ad h pc' lv (.int v :: st)) : k_W X nL cells slots Q ad h pc lv st := by
  subst hn
  exact fun H locs ls hw hP hD hS hl => lv_ldc C.1 C.2.1 C.2.2.2.1 (C.2.2.2.2.1 _ hm) hd (k H locs ls hw hP hD hS hl)
theorem r_ldc2 (C : k_C X cc own nL ad) {ix : Nat} {v : Int64} (hd : decode cc pc = .ok (.ldc2_w ix, 3)) (hn : pc + 3 = pc') (hm : Cond.constantLong own ix v ∈ k_tb) (k : k_W X nL cells slots Q ad h pc' lv (.long v :: st)) : k_W X nL cells slots Q ad h pc lv st := by
  subst hn
  exact fun H locs ls hw hP hD hS hl => lv_ldc2 C.1 C.2.1 C.2.2.2.1 (C.2.2.2.2.1 _ hm) hd (k H locs ls hw hP hD hS hl)
theorem r_iload_n (C : k_C X cc own nL ad) {n : Fin 4} {x : Int32} (hd : decode cc pc = .ok (.iload_n n, 1)) (hn : pc + 1 = pc') (hl0 : lv[(n : Nat)]? = some (some (.int x))) (k : k_W X nL cells slots Q ad h pc' lv (.int x :: st)) : k_W X nL cells slots Q ad h pc lv st := by
  subst hn
  exact fun H locs ls hw hP hD hS hl => lv_iload_n C.1 C.2.1 hd rfl (hl.2.2 _ _ hl0) (k H locs ls hw hP hD hS hl)
theorem r_iload (C : k_C X cc own nL ad) {n : Nat} {x : Int32} (hd : decode cc pc = .ok (.iload n, 2)) (hn : pc + 2 = pc') (hl0 : lv[n]? = some (some (.int x))) (k : k_W X nL cells slots Q ad h pc' lv (.int x :: st)) : k_W X nL cells slots Q ad h pc lv st := by
  subst hn
  exact fun H locs ls hw hP hD hS hl => lv_iload C.1 C.2.1 hd (hl.2.2 _ _ hl0) (k H locs ls hw hP hD hS hl)
theorem r_lload_n (C : k_C X cc own nL ad) {n : Fin 4} {x : Int64} (hd : decode cc pc = .ok (.lload_n n, 1)) (hn : pc + 1 = pc') (hl0 : lv[(n : Nat)]? = some (some (.long x))) (k : k_W X nL cells slots Q ad h pc' lv (.long x :: st)) : k_W X nL cells slots Q ad h pc lv st := by
  subst hn
  exact fun H locs ls hw hP hD hS hl => lv_lload_n C.1 C.2.1 hd rfl (hl.2.2 _ _ hl0) (k H locs ls hw hP hD hS hl)
theorem r_lload (C : k_C X cc own nL ad) {n : Nat} {x : Int64} (hd : decode cc pc = .ok (.lload n, 2)) (hn : pc + 2 = pc') (hl0 : lv[n]? = some (some (.long x))) (k : k_W X nL cells slots Q ad h pc' lv (.long x :: st)) : k_W X nL cells slots Q ad h pc lv st := by
  subst hn
  exact fun H locs ls hw hP hD hS hl => lv_lload C.1 C.2.1 hd (hl.2.2 _ _ hl0) (k H locs ls hw hP hD hS hl)
theorem r_aload_n (C : k_C X cc own nL ad) {n : Fin 4} {x : Nat} (hd : decode cc pc = .ok (.aload_n n, 1)) (hn : pc + 1 = pc') (hl0 : lv[(n : Nat)]? = some (some (.ref x))) (k : k_W X nL cells slots Q ad h pc' lv (.ref x :: st)) : k_W X nL cells slots Q ad h pc lv st := by
  subst hn
  exact fun H locs ls hw hP hD hS hl => lv_aload_n C.1 C.2.1 hd rfl (hl.2.2 _ _ hl0) (k H locs ls hw hP hD hS hl)
theorem r_aload (C : k_C X cc own nL ad) {n : Nat} {x : Nat} (hd : decode cc pc = .ok (.aload n, 2)) (hn : pc + 2 = pc') (hl0 : lv[n]? = some (some (.ref x))) (k : k_W X nL cells slots Q ad h pc' lv (.ref x :: st)) : k_W X nL cells slots Q ad h pc lv st := by
  subst hn
  exact fun H locs ls hw hP hD hS hl => lv_aload C.1 C.2.1 hd (hl.2.2 _ _ hl0) (k H locs ls hw hP hD hS hl)
theorem r_istore_n (C : k_C X cc own nL ad) {n : Fin 4} {x : Int32} (hd : decode cc pc = .ok (.istore_n n, 1)) (hn : pc + 1 = pc') (h1 : (n : Nat) < nL) (h2 : (n : Nat) < lv.length) (k : k_W X nL cells slots Q ad h pc' (k_s1 lv n (.int x)) st) : k_W X nL cells slots Q ad h pc lv (.int x :: st) := by
  subst hn
  exact fun H locs ls hw hP hD hS hl => lv_istore_n C.1 C.2.1 hd rfl (k_lh_has hl) h1 rfl (fun ls' hl' => k H locs ls' hw hP hD hS (k_lh_s1 h2 hl'))
theorem r_istore (C : k_C X cc own nL ad) {n : Nat} {x : Int32} (hd : decode cc pc = .ok (.istore n, 2)) (hn : pc + 2 = pc') (h1 : (n : Nat) < nL) (h2 : n < lv.length) (k : k_W X nL cells slots Q ad h pc' (k_s1 lv n (.int x)) st) : k_W X nL cells slots Q ad h pc lv (.int x :: st) := by
  subst hn
  exact fun H locs ls hw hP hD hS hl => lv_istore C.1 C.2.1 hd (k_lh_has hl) h1 rfl (fun ls' hl' => k H locs ls' hw hP hD hS (k_lh_s1 h2 hl'))
theorem r_astore_n (C : k_C X cc own nL ad) {n : Fin 4} {x : Nat} (hd : decode cc pc = .ok (.astore_n n, 1)) (hn : pc + 1 = pc') (h1 : (n : Nat) < nL) (h2 : (n : Nat) < lv.length) (k : k_W X nL cells slots Q ad h pc' (k_s1 lv n (.ref x)) st) : k_W X nL cells slots Q ad h pc lv (.ref x :: st) := by
  subst hn
  exact fun H locs ls hw hP hD hS hl => lv_astore_n C.1 C.2.1 hd rfl (k_lh_has hl) h1 rfl (fun ls' hl' => k H locs ls' hw hP hD hS (k_lh_s1 h2 hl'))
theorem r_astore (C : k_C X cc own nL ad) {n : Nat} {x : Nat} (hd : decode cc pc = .ok (.astore n, 2)) (hn : pc + 2 = pc') (h1 : (n : Nat) < nL) (h2 : n < lv.length) (k : k_W X nL cells slots Q ad h pc' (k_s1 lv n (.ref x)) st) : k_W X nL cells slots Q ad h pc lv (.ref x :: st) := by
  subst hn
  exact fun H locs ls hw hP hD hS hl => lv_astore C.1 C.2.1 hd (k_lh_has hl) h1 rfl (fun ls' hl' => k H locs ls' hw hP hD hS (k_lh_s1 h2 hl'))
theorem r_lstore_n (C : k_C X cc own nL ad) {n : Fin 4} {x : Int64} (hd : decode cc pc = .ok (.lstore_n n, 1)) (hn : pc + 1 = pc') (h1 : (n : Nat) + 1 < nL) (h2 : (n : Nat) < lv.length) (k : k_W X nL cells slots Q ad h pc' (k_s2 lv n (.long x)) st) : k_W X nL cells slots Q ad h pc lv (.long x :: st) := by
  subst hn
  exact fun H locs ls hw hP hD hS hl => lv_lstore_n C.1 C.2.1 hd rfl (k_lh_has hl) h1 rfl (fun ls' hl' => k H locs ls' hw hP hD hS (k_lh_s2 h2 hl'))
theorem r_lstore (C : k_C X cc own nL ad) {n : Nat} {x : Int64} (hd : decode cc pc = .ok (.lstore n, 2)) (hn : pc + 2 = pc') (h1 : (n : Nat) + 1 < nL) (h2 : n < lv.length) (k : k_W X nL cells slots Q ad h pc' (k_s2 lv n (.long x)) st) : k_W X nL cells slots Q ad h pc lv (.long x :: st) := by
  subst hn
  exact fun H locs ls hw hP hD hS hl => lv_lstore C.1 C.2.1 hd (k_lh_has hl) h1 rfl (fun ls' hl' => k H locs ls' hw hP hD hS (k_lh_s2 h2 hl'))
theorem r_iinc (C : k_C X cc own nL ad) {i : Nat} {n : Int} {x v : Int32} (hd : decode cc pc = .ok (.iinc i n, 3)) (hn : pc + 3 = pc') (hl0 : lv[i]? = some (some (.int x))) (hv : x + Int32.ofInt n = v) (h1 : i < nL) (k : k_W X nL cells slots Q ad h pc' (k_s1 lv i (.int v)) st) : k_W X nL cells slots Q ad h pc lv st := by
  subst hn
  intro H locs ls hw hP hD hS hl
  obtain ⟨kk, hk⟩ := List.getElem?_of_mem (k_ll_mem (ad := ad) (lv := lv) (q := (i, .int x)).mpr ⟨_, hl0, rfl⟩)
  exact lv_iinc C.1 C.2.1 hd (k_lh_has hl) hk hv h1 rfl (fun ls' hl' => k H locs ls' hw hP hD hS (k_lh_s1 (v := .int v) (List.getElem?_eq_some_iff.mp hl0).1 hl'))
theorem r_iadd (C : k_C X cc own nL ad) {x y : Int32} (hd : decode cc pc = .ok (.iadd, 1)) (hn : pc + 1 = pc') (k : k_W X nL cells slots Q ad h pc' lv (.int (x + y) :: st)) : k_W X nL cells slots Q ad h pc lv (.int y :: .int x :: st) := by
  subst hn
  exact fun H locs ls hw hP hD hS hl => lv_iadd C.1 C.2.1 hd (k H locs ls hw hP hD hS hl)
theorem r_isub (C : k_C X cc own nL ad) {x y : Int32} (hd : decode cc pc = .ok (.isub, 1)) (hn : pc + 1 = pc') (k : k_W X nL cells slots Q ad h pc' lv (.int (x - y) :: st)) : k_W X nL cells slots Q ad h pc lv (.int y :: .int x :: st) := by
  subst hn
  exact fun H locs ls hw hP hD hS hl => lv_isub C.1 C.2.1 hd (k H locs ls hw hP hD hS hl)
theorem r_imul (C : k_C X cc own nL ad) {x y : Int32} (hd : decode cc pc = .ok (.imul, 1)) (hn : pc + 1 = pc') (k : k_W X nL cells slots Q ad h pc' lv (.int (x * y) :: st)) : k_W X nL cells slots Q ad h pc lv (.int y :: .int x :: st) := by
  subst hn
  exact fun H locs ls hw hP hD hS hl => lv_imul C.1 C.2.1 hd (k H locs ls hw hP hD hS hl)
theorem r_iand (C : k_C X cc own nL ad) {x y : Int32} (hd : decode cc pc = .ok (.iand, 1)) (hn : pc + 1 = pc') (k : k_W X nL cells slots Q ad h pc' lv (.int (x &&& y) :: st)) : k_W X nL cells slots Q ad h pc lv (.int y :: .int x :: st) := by
  subst hn
  exact fun H locs ls hw hP hD hS hl => lv_iand C.1 C.2.1 hd (k H locs ls hw hP hD hS hl)
theorem r_ior (C : k_C X cc own nL ad) {x y : Int32} (hd : decode cc pc = .ok (.ior, 1)) (hn : pc + 1 = pc') (k : k_W X nL cells slots Q ad h pc' lv (.int (x ||| y) :: st)) : k_W X nL cells slots Q ad h pc lv (.int y :: .int x :: st) := by
  subst hn
  exact fun H locs ls hw hP hD hS hl => lv_ior C.1 C.2.1 hd (k H locs ls hw hP hD hS hl)
theorem r_ixor (C : k_C X cc own nL ad) {x y : Int32} (hd : decode cc pc = .ok (.ixor, 1)) (hn : pc + 1 = pc') (k : k_W X nL cells slots Q ad h pc' lv (.int (x ^^^ y) :: st)) : k_W X nL cells slots Q ad h pc lv (.int y :: .int x :: st) := by
  subst hn
  exact fun H locs ls hw hP hD hS hl => lv_ixor C.1 C.2.1 hd (k H locs ls hw hP hD hS hl)
theorem r_ishl (C : k_C X cc own nL ad) {x y : Int32} (hd : decode cc pc = .ok (.ishl, 1)) (hn : pc + 1 = pc') (k : k_W X nL cells slots Q ad h pc' lv (.int (x <<< (y &&& 31)) :: st)) : k_W X nL cells slots Q ad h pc lv (.int y :: .int x :: st) := by
  subst hn
  exact fun H locs ls hw hP hD hS hl => lv_ishl C.1 C.2.1 hd (k H locs ls hw hP hD hS hl)
theorem r_ishr (C : k_C X cc own nL ad) {x y : Int32} (hd : decode cc pc = .ok (.ishr, 1)) (hn : pc + 1 = pc') (k : k_W X nL cells slots Q ad h pc' lv (.int (x >>> (y &&& 31)) :: st)) : k_W X nL cells slots Q ad h pc lv (.int y :: .int x :: st) := by
  subst hn
  exact fun H locs ls hw hP hD hS hl => lv_ishr C.1 C.2.1 hd (k H locs ls hw hP hD hS hl)
theorem r_idiv (C : k_C X cc own nL ad) {x y : Int32} (hd : decode cc pc = .ok (.idiv, 1)) (hn : pc + 1 = pc') (h0 : ¬ y = 0) (k : k_W X nL cells slots Q ad h pc' lv (.int (x / y) :: st)) : k_W X nL cells slots Q ad h pc lv (.int y :: .int x :: st) := by
  subst hn
  exact fun H locs ls hw hP hD hS hl => lv_idiv C.1 C.2.1 hd h0 (k H locs ls hw hP hD hS hl)
theorem r_irem (C : k_C X cc own nL ad) {x y : Int32} (hd : decode cc pc = .ok (.irem, 1)) (hn : pc + 1 = pc') (h0 : ¬ y = 0) (k : k_W X nL cells slots Q ad h pc' lv (.int (x - x / y * y) :: st)) : k_W X nL cells slots Q ad h pc lv (.int y :: .int x :: st) := by
  subst hn
  exact fun H locs ls hw hP hD hS hl => lv_irem C.1 C.2.1 hd h0 (k H locs ls hw hP hD hS hl)
theorem r_ladd (C : k_C X cc own nL ad) {x y : Int64} (hd : decode cc pc = .ok (.ladd, 1)) (hn : pc + 1 = pc') (k : k_W X nL cells slots Q ad h pc' lv (.long (x + y) :: st)) : k_W X nL cells slots Q ad h pc lv (.long y :: .long x :: st) := by
  subst hn
  exact fun H locs ls hw hP hD hS hl => lv_ladd C.1 C.2.1 hd (k H locs ls hw hP hD hS hl)
theorem r_lsub (C : k_C X cc own nL ad) {x y : Int64} (hd : decode cc pc = .ok (.lsub, 1)) (hn : pc + 1 = pc') (k : k_W X nL cells slots Q ad h pc' lv (.long (x - y) :: st)) : k_W X nL cells slots Q ad h pc lv (.long y :: .long x :: st) := by
  subst hn
  exact fun H locs ls hw hP hD hS hl => lv_lsub C.1 C.2.1 hd (k H locs ls hw hP hD hS hl)
theorem r_lmul (C : k_C X cc own nL ad) {x y : Int64} (hd : decode cc pc = .ok (.lmul, 1)) (hn : pc + 1 = pc') (k : k_W X nL cells slots Q ad h pc' lv (.long (x * y) :: st)) : k_W X nL cells slots Q ad h pc lv (.long y :: .long x :: st) := by
  subst hn
  exact fun H locs ls hw hP hD hS hl => lv_lmul C.1 C.2.1 hd (k H locs ls hw hP hD hS hl)
theorem r_land (C : k_C X cc own nL ad) {x y : Int64} (hd : decode cc pc = .ok (.land, 1)) (hn : pc + 1 = pc') (k : k_W X nL cells slots Q ad h pc' lv (.long (x &&& y) :: st)) : k_W X nL cells slots Q ad h pc lv (.long y :: .long x :: st) := by
  subst hn
  exact fun H locs ls hw hP hD hS hl => lv_land C.1 C.2.1 hd (k H locs ls hw hP hD hS hl)
theorem r_lor (C : k_C X cc own nL ad) {x y : Int64} (hd : decode cc pc = .ok (.lor, 1)) (hn : pc + 1 = pc') (k : k_W X nL cells slots Q ad h pc' lv (.long (x ||| y) :: st)) : k_W X nL cells slots Q ad h pc lv (.long y :: .long x :: st) := by
  subst hn
  exact fun H locs ls hw hP hD hS hl => lv_lor C.1 C.2.1 hd (k H locs ls hw hP hD hS hl)
theorem r_lxor (C : k_C X cc own nL ad) {x y : Int64} (hd : decode cc pc = .ok (.lxor, 1)) (hn : pc + 1 = pc') (k : k_W X nL cells slots Q ad h pc' lv (.long (x ^^^ y) :: st)) : k_W X nL cells slots Q ad h pc lv (.long y :: .long x :: st) := by
  subst hn
  exact fun H locs ls hw hP hD hS hl => lv_lxor C.1 C.2.1 hd (k H locs ls hw hP hD hS hl)
theorem r_iushr (C : k_C X cc own nL ad) {x y : Int32} (hd : decode cc pc = .ok (.iushr, 1)) (hn : pc + 1 = pc') (k : k_W X nL cells slots Q ad h pc' lv (.int ((x.toUInt32 >>> (y.toUInt32 &&& Int32.toUInt32 31)).toInt32) :: st)) : k_W X nL cells slots Q ad h pc lv (.int y :: .int x :: st) := by
  subst hn
  exact fun H locs ls hw hP hD hS hl => lv_iushr C.1 C.2.1 hd rfl (k H locs ls hw hP hD hS hl)
theorem r_lushr (C : k_C X cc own nL ad) {x : Int64} {y : Int32} (hd : decode cc pc = .ok (.lushr, 1)) (hn : pc + 1 = pc') (k : k_W X nL cells slots Q ad h pc' lv (.long ((x.toUInt64 >>> (y.toInt64.toUInt64 &&& Int64.toUInt64 63)).toInt64) :: st)) : k_W X nL cells slots Q ad h pc lv (.int y :: .long x :: st) := by
  subst hn
  exact fun H locs ls hw hP hD hS hl => lv_lushr C.1 C.2.1 hd rfl (k H locs ls hw hP hD hS hl)
theorem r_lshl (C : k_C X cc own nL ad) {x : Int64} {y : Int32} (hd : decode cc pc = .ok (.lshl, 1)) (hn : pc + 1 = pc') (k : k_W X nL cells slots Q ad h pc' lv (.long (x <<< (y.toInt64 &&& 63)) :: st)) : k_W X nL cells slots Q ad h pc lv (.int y :: .long x :: st) := by
  subst hn
  exact fun H locs ls hw hP hD hS hl => lv_lshl C.1 C.2.1 hd rfl (k H locs ls hw hP hD hS hl)
theorem r_i2l (C : k_C X cc own nL ad) {x : Int32} (hd : decode cc pc = .ok (.i2l, 1)) (hn : pc + 1 = pc') (k : k_W X nL cells slots Q ad h pc' lv (.long (x.toInt64) :: st)) : k_W X nL cells slots Q ad h pc lv (.int x :: st) := by
  subst hn
  exact fun H locs ls hw hP hD hS hl => lv_i2l C.1 C.2.1 hd rfl (k H locs ls hw hP hD hS hl)
theorem r_l2i (C : k_C X cc own nL ad) {x : Int64} (hd : decode cc pc = .ok (.l2i, 1)) (hn : pc + 1 = pc') (k : k_W X nL cells slots Q ad h pc' lv (.int (x.toInt32) :: st)) : k_W X nL cells slots Q ad h pc lv (.long x :: st) := by
  subst hn
  exact fun H locs ls hw hP hD hS hl => lv_l2i C.1 C.2.1 hd rfl (k H locs ls hw hP hD hS hl)
theorem r_i2b (C : k_C X cc own nL ad) {x : Int32} (hd : decode cc pc = .ok (.i2b, 1)) (hn : pc + 1 = pc') (k : k_W X nL cells slots Q ad h pc' lv (.int (x.toInt8.toInt32) :: st)) : k_W X nL cells slots Q ad h pc lv (.int x :: st) := by
  subst hn
  exact fun H locs ls hw hP hD hS hl => lv_i2b C.1 C.2.1 hd rfl (k H locs ls hw hP hD hS hl)
theorem r_lcmp (C : k_C X cc own nL ad) {x y : Int64} (hd : decode cc pc = .ok (.lcmp, 1)) (hn : pc + 1 = pc') (k : k_W X nL cells slots Q ad h pc' lv (.int (lg_cmp x y) :: st)) : k_W X nL cells slots Q ad h pc lv (.long y :: .long x :: st) := by
  subst hn
  exact fun H locs ls hw hP hD hS hl => W.lcmp C.1 C.2.1 hd (k H locs ls hw hP hD hS hl)
theorem r_dup (C : k_C X cc own nL ad) {v : Value} (hd : decode cc pc = .ok (.dup, 1)) (hn : pc + 1 = pc') (hc : v.category = 1) (k : k_W X nL cells slots Q ad h pc' lv (v :: v :: st)) : k_W X nL cells slots Q ad h pc lv (v :: st) := by
  subst hn
  exact fun H locs ls hw hP hD hS hl => lv_dup C.1 C.2.1 hd ((k_cat ad v).trans hc) (k H locs ls hw hP hD hS hl)
theorem r_pop (C : k_C X cc own nL ad) {v : Value} (hd : decode cc pc = .ok (.pop, 1)) (hn : pc + 1 = pc') (hc : v.category = 1) (k : k_W X nL cells slots Q ad h pc' lv st) : k_W X nL cells slots Q ad h pc lv (v :: st) := by
  subst hn
  exact fun H locs ls hw hP hD hS hl => lv_pop C.1 C.2.1 hd ((k_cat ad v).trans hc) (k H locs ls hw hP hD hS hl)
theorem r_dup2 (C : k_C X cc own nL ad) {v w : Value} (hd : decode cc pc = .ok (.dup2, 1)) (hn : pc + 1 = pc') (hc : v.category = 1) (hc2 : w.category = 1) (k : k_W X nL cells slots Q ad h pc' lv (v :: w :: v :: w :: st)) : k_W X nL cells slots Q ad h pc lv (v :: w :: st) := by
  subst hn
  exact fun H locs ls hw hP hD hS hl => lv_dup2_11 C.1 C.2.1 hd ((k_cat ad v).trans hc) ((k_cat ad w).trans hc2) (k H locs ls hw hP hD hS hl)
theorem r_if_eq (C : k_C X cc own nL ad) {x : Int32} {off : Int} {tgt : Nat} (hd : decode cc pc = .ok (.ifCond .eq off, 3)) (ht : (pc : Int) + off = (tgt : Int)) (hn : pc + 3 = pc') (kt : x = 0 → k_W X nL cells slots Q ad h tgt lv st) (kf : ¬ x = 0 → k_W X nL cells slots Q ad h pc' lv st) : k_W X nL cells slots Q ad h pc lv (.int x :: st) := by
  subst hn
  exact fun H locs ls hw hP hD hS hl => lv_if_eq C.1 C.2.1 hd ht (fun c => kt c H locs ls hw hP hD hS hl) (fun c => kf c H locs ls hw hP hD hS hl)
theorem r_icmp_eq (C : k_C X cc own nL ad) {x y : Int32} {off : Int} {tgt : Nat} (hd : decode cc pc = .ok (.if_icmp .eq off, 3)) (ht : (pc : Int) + off = (tgt : Int)) (hn : pc + 3 = pc') (kt : x = y → k_W X nL cells slots Q ad h tgt lv st) (kf : ¬ x = y → k_W X nL cells slots Q ad h pc' lv st) : k_W X nL cells slots Q ad h pc lv (.int y :: .int x :: st) := by
  subst hn
  exact fun H locs ls hw hP hD hS hl => lv_icmp_eq C.1 C.2.1 hd ht (fun c => kt c H locs ls hw hP hD hS hl) (fun c => kf c H locs ls hw hP hD hS hl)
theorem r_if_ne (C : k_C X cc own nL ad) {x : Int32} {off : Int} {tgt : Nat} (hd : decode cc pc = .ok (.ifCond .ne off, 3)) (ht : (pc : Int) + off = (tgt : Int)) (hn : pc + 3 = pc') (kt : ¬ x = 0 → k_W X nL cells slots Q ad h tgt lv st) (kf : x = 0 → k_W X nL cells slots Q ad h pc' lv st) : k_W X nL cells slots Q ad h pc lv (.int x :: st) := by
  subst hn
  exact fun H locs ls hw hP hD hS hl => lv_if_ne C.1 C.2.1 hd ht (fun c => kt c H locs ls hw hP hD hS hl) (fun c => kf c H locs ls hw hP hD hS hl)
theorem r_icmp_ne (C : k_C X cc own nL ad) {x y : Int32} {off : Int} {tgt : Nat} (hd : decode cc pc = .ok (.if_icmp .ne off, 3)) (ht : (pc : Int) + off = (tgt : Int)) (hn : pc + 3 = pc') (kt : ¬ x = y → k_W X nL cells slots Q ad h tgt lv st) (kf : x = y → k_W X nL cells slots Q ad h pc' lv st) : k_W X nL cells slots Q ad h pc lv (.int y :: .int x :: st) := by
  subst hn
  exact fun H locs ls hw hP hD hS hl => lv_icmp_ne C.1 C.2.1 hd ht (fun c => kt c H locs ls hw hP hD hS hl) (fun c => kf c H locs ls hw hP hD hS hl)
theorem r_if_lt (C : k_C X cc own nL ad) {x : Int32} {off : Int} {tgt : Nat} (hd : decode cc pc = .ok (.ifCond .lt off, 3)) (ht : (pc : Int) + off = (tgt : Int)) (hn : pc + 3 = pc') (kt : x < 0 → k_W X nL cells slots Q ad h tgt lv st) (kf : ¬ x < 0 → k_W X nL cells slots Q ad h pc' lv st) : k_W X nL cells slots Q ad h pc lv (.int x :: st) := by
  subst hn
  exact fun H locs ls hw hP hD hS hl => lv_if_lt C.1 C.2.1 hd ht (fun c => kt c H locs ls hw hP hD hS hl) (fun c => kf c H locs ls hw hP hD hS hl)
theorem r_icmp_lt (C : k_C X cc own nL ad) {x y : Int32} {off : Int} {tgt : Nat} (hd : decode cc pc = .ok (.if_icmp .lt off, 3)) (ht : (pc : Int) + off = (tgt : Int)) (hn : pc + 3 = pc') (kt : x < y → k_W X nL cells slots Q ad h tgt lv st) (kf : ¬ x < y → k_W X nL cells slots Q ad h pc' lv st) : k_W X nL cells slots Q ad h pc lv (.int y :: .int x :: st) := by
  subst hn
  exact fun H locs ls hw hP hD hS hl => lv_icmp_lt C.1 C.2.1 hd ht (fun c => kt c H locs ls hw hP hD hS hl) (fun c => kf c H locs ls hw hP hD hS hl)
theorem r_if_ge (C : k_C X cc own nL ad) {x : Int32} {off : Int} {tgt : Nat} (hd : decode cc pc = .ok (.ifCond .ge off, 3)) (ht : (pc : Int) + off = (tgt : Int)) (hn : pc + 3 = pc') (kt : 0 ≤ x → k_W X nL cells slots Q ad h tgt lv st) (kf : ¬ 0 ≤ x → k_W X nL cells slots Q ad h pc' lv st) : k_W X nL cells slots Q ad h pc lv (.int x :: st) := by
  subst hn
  exact fun H locs ls hw hP hD hS hl => lv_if_ge C.1 C.2.1 hd ht (fun c => kt c H locs ls hw hP hD hS hl) (fun c => kf c H locs ls hw hP hD hS hl)
theorem r_icmp_ge (C : k_C X cc own nL ad) {x y : Int32} {off : Int} {tgt : Nat} (hd : decode cc pc = .ok (.if_icmp .ge off, 3)) (ht : (pc : Int) + off = (tgt : Int)) (hn : pc + 3 = pc') (kt : y ≤ x → k_W X nL cells slots Q ad h tgt lv st) (kf : ¬ y ≤ x → k_W X nL cells slots Q ad h pc' lv st) : k_W X nL cells slots Q ad h pc lv (.int y :: .int x :: st) := by
  subst hn
  exact fun H locs ls hw hP hD hS hl => lv_icmp_ge C.1 C.2.1 hd ht (fun c => kt c H locs ls hw hP hD hS hl) (fun c => kf c H locs ls hw hP hD hS hl)
theorem r_if_gt (C : k_C X cc own nL ad) {x : Int32} {off : Int} {tgt : Nat} (hd : decode cc pc = .ok (.ifCond .gt off, 3)) (ht : (pc : Int) + off = (tgt : Int)) (hn : pc + 3 = pc') (kt : 0 < x → k_W X nL cells slots Q ad h tgt lv st) (kf : ¬ 0 < x → k_W X nL cells slots Q ad h pc' lv st) : k_W X nL cells slots Q ad h pc lv (.int x :: st) := by
  subst hn
  exact fun H locs ls hw hP hD hS hl => lv_if_gt C.1 C.2.1 hd ht (fun c => kt c H locs ls hw hP hD hS hl) (fun c => kf c H locs ls hw hP hD hS hl)
theorem r_icmp_gt (C : k_C X cc own nL ad) {x y : Int32} {off : Int} {tgt : Nat} (hd : decode cc pc = .ok (.if_icmp .gt off, 3)) (ht : (pc : Int) + off = (tgt : Int)) (hn : pc + 3 = pc') (kt : y < x → k_W X nL cells slots Q ad h tgt lv st) (kf : ¬ y < x → k_W X nL cells slots Q ad h pc' lv st) : k_W X nL cells slots Q ad h pc lv (.int y :: .int x :: st) := by
  subst hn
  exact fun H locs ls hw hP hD hS hl => lv_icmp_gt C.1 C.2.1 hd ht (fun c => kt c H locs ls hw hP hD hS hl) (fun c => kf c H locs ls hw hP hD hS hl)
theorem r_if_le (C : k_C X cc own nL ad) {x : Int32} {off : Int} {tgt : Nat} (hd : decode cc pc = .ok (.ifCond .le off, 3)) (ht : (pc : Int) + off = (tgt : Int)) (hn : pc + 3 = pc') (kt : x ≤ 0 → k_W X nL cells slots Q ad h tgt lv st) (kf : ¬ x ≤ 0 → k_W X nL cells slots Q ad h pc' lv st) : k_W X nL cells slots Q ad h pc lv (.int x :: st) := by
  subst hn
  exact fun H locs ls hw hP hD hS hl => lv_if_le C.1 C.2.1 hd ht (fun c => kt c H locs ls hw hP hD hS hl) (fun c => kf c H locs ls hw hP hD hS hl)
theorem r_icmp_le (C : k_C X cc own nL ad) {x y : Int32} {off : Int} {tgt : Nat} (hd : decode cc pc = .ok (.if_icmp .le off, 3)) (ht : (pc : Int) + off = (tgt : Int)) (hn : pc + 3 = pc') (kt : x ≤ y → k_W X nL cells slots Q ad h tgt lv st) (kf : ¬ x ≤ y → k_W X nL cells slots Q ad h pc' lv st) : k_W X nL cells slots Q ad h pc lv (.int y :: .int x :: st) := by
  subst hn
  exact fun H locs ls hw hP hD hS hl => lv_icmp_le C.1 C.2.1 hd ht (fun c => kt c H locs ls hw hP hD hS hl) (fun c => kf c H locs ls hw hP hD hS hl)
theorem r_goto (C : k_C X cc own nL ad) {off : Int} {tgt : Nat} (hd : decode cc pc = .ok (.goto off, 3)) (ht : (pc : Int) + off = (tgt : Int)) (k : k_W X nL cells slots Q ad h tgt lv st) : k_W X nL cells slots Q ad h pc lv st :=
  fun H locs ls hw hP hD hS hl => lv_goto C.1 C.2.1 hd ht (k H locs ls hw hP hD hS hl)
theorem r_tabOut (C : k_C X cc own nL ad) {dflt lo hi : Int} {offs : Array Int} {len : Nat} {x : Int32} {tgt : Nat} (hd : decode cc pc = .ok (.tableswitch dflt lo hi offs, len)) (h1 : x.toInt < lo ∨ hi < x.toInt) (ht : (pc : Int) + dflt = (tgt : Int)) (k : k_W X nL cells slots Q ad h tgt lv st) : k_W X nL cells slots Q ad h pc lv (.int x :: st) :=
  fun H locs ls hw hP hD hS hl => lv_tableOut C.1 C.2.1 hd h1 ht (k H locs ls hw hP hD hS hl)
theorem r_tabIn (C : k_C X cc own nL ad) {dflt lo hi : Int} {offs : Array Int} {len : Nat} {x : Int32} {off : Int} {tgt : Nat} (hd : decode cc pc = .ok (.tableswitch dflt lo hi offs, len)) (h1 : ¬ x.toInt < lo) (h2 : ¬ hi < x.toInt) (ho : offs[(x.toInt - lo).toNat]? = some off) (ht : (pc : Int) + off = (tgt : Int)) (k : k_W X nL cells slots Q ad h tgt lv st) : k_W X nL cells slots Q ad h pc lv (.int x :: st) :=
  fun H locs ls hw hP hD hS hl => lv_tableIn C.1 C.2.1 hd h1 h2 ho ht (k H locs ls hw hP hD hS hl)
theorem r_look (C : k_C X cc own nL ad) {dflt : Int} {ps : Array (Int × Int)} {len : Nat} {x : Int32} {off : Int} {tgt : Nat} (hd : decode cc pc = .ok (.lookupswitch dflt ps, len)) (hp : (ps.toList.zip (ps.toList.drop 1)).all (fun (a, next) => a.1 < next.1) = true) (ho : Op.lookupswitch.offset ps.toList dflt x.toInt = off) (ht : (pc : Int) + off = (tgt : Int)) (k : k_W X nL cells slots Q ad h tgt lv st) : k_W X nL cells slots Q ad h pc lv (.int x :: st) :=
  fun H locs ls hw hP hD hS hl => lv_lookup C.1 C.2.1 hd hp ho ht (k H locs ls hw hP hD hS hl)
theorem r_ifnull (C : k_C X cc own nL ad) {x : Nat} {off : Int} (hd : decode cc pc = .ok (.ifnull off, 3)) (hn : pc + 3 = pc') (k : k_W X nL cells slots Q ad h pc' lv st) : k_W X nL cells slots Q ad h pc lv (.ref x :: st) := by
  subst hn
  exact fun H locs ls hw hP hD hS hl => lv_ifnull C.1 C.2.1 hd (k H locs ls hw hP hD hS hl)
theorem r_ifnonnull (C : k_C X cc own nL ad) {x : Nat} {off : Int} {tgt : Nat} (hd : decode cc pc = .ok (.ifnonnull off, 3)) (ht : (pc : Int) + off = (tgt : Int)) (k : k_W X nL cells slots Q ad h tgt lv st) : k_W X nL cells slots Q ad h pc lv (.ref x :: st) :=
  fun H locs ls hw hP hD hS hl => lv_ifnonnull C.1 C.2.1 hd ht (k H locs ls hw hP hD hS hl)
end ROWS
