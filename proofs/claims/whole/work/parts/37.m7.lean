/-! LullabyPitModel.next()Z -/
theorem ds_X11_next : k_ds [(21, 2, 0), (24, 2, 0)] = true := by decide
def bX11_next_158 (u : Nat) (c0_30 : Int32) (a9 : (Nat → Int32)) (a10 : (Nat → Int32)) (k17 : (Nat → Int32) → (Nat → Int32) → Int32 → Option (Int32 × (Nat → Int32) × (Nat → Int32))) (a21 : (Nat → Int32)) (a24 : (Nat → Int32)) (v1 : Int32) : Option (Int32 × (Nat → Int32) × (Nat → Int32)) := (k17 a21 a24 (v1 + (1 : Int32)))
set_option maxHeartbeats 400000 in
set_option maxRecDepth 100000 in
theorem sX11_next_158 (u : Nat) {X : k_X} {ad : Nat → Nat} (C : k_C X cX11_next RX11 4 ad) (hr : X.meth.sig.returnType = (some .boolean)) (hR : X.R.frames = 1 ∧ X.R.locals = 23) {I : Nat → Nat → Int32} {L : Nat → Nat → Int64} {Rf : Nat → Nat → Option Nat} {c0_30 : Int32} (ec0_30 : I 0 30 = c0_30) {a9 : (Nat → Int32)} (ea9 : I 9 = a9) {a10 : (Nat → Int32)} (ea10 : I 10 = a10) {out : Int32 × (Nat → Int32) × (Nat → Int32)} {k17 : (Nat → Int32) → (Nat → Int32) → Int32 → Option (Int32 × (Nat → Int32) × (Nat → Int32))} (hk17 : ∀ (a21 : (Nat → Int32)) (a24 : (Nat → Int32)) (v1 : Int32), k17 a21 a24 v1 = some out → k_W X 4 0 0 (k_Q X ad (some (.int out.1)) (k_ap [(21, .inr (.inr (.inl out.2.1))), (24, .inr (.inr (.inl out.2.2)))] (shM, I, L, Rf))) ad (k_ap [(21, .inr (.inr (.inl a21))), (24, .inr (.inr (.inl a24)))] (shM, I, L, Rf)) 17 [some (.ref 0), some (.int v1), none, none] []) : ∀ (a21 : (Nat → Int32)) (a24 : (Nat → Int32)) (v1 : Int32), bX11_next_158 u c0_30 a9 a10 k17 a21 a24 v1 = some out → k_W X 4 0 0 (k_Q X ad (some (.int out.1)) (k_ap [(21, .inr (.inr (.inl out.2.1))), (24, .inr (.inr (.inl out.2.2)))] (shM, I, L, Rf))) ad (k_ap [(21, .inr (.inr (.inl a21))), (24, .inr (.inr (.inl a24)))] (shM, I, L, Rf)) 158 [some (.ref 0), some (.int v1), none, none] [] := by
  intro a21 a24 v1 h
  unfold bX11_next_158 at h
  refine r_iinc (v := (v1 + (1 : Int32))) C dX11_next_158 (rfl : 158 + 3 = 161) rfl rfl (by decide) ?_
  show k_W _ _ _ _ _ _ _ _ [some (.ref 0), some (.int (v1 + (1 : Int32))), none, none] _
  refine r_goto (tgt := 17) C dX11_next_161 (by decide) ?_
  refine k_mask [true, true, false, false] ?_
  exact hk17 a21 a24 (v1 + (1 : Int32)) h
def bX11_next_111 (u : Nat) (c0_30 : Int32) (a9 : (Nat → Int32)) (a10 : (Nat → Int32)) (k17 : (Nat → Int32) → (Nat → Int32) → Int32 → Option (Int32 × (Nat → Int32) × (Nat → Int32))) : Nat → (Nat → Int32) → (Nat → Int32) → Int32 → Int32 → Option (Int32 × (Nat → Int32) × (Nat → Int32))
  | 0, _, _, _, _ => none
  | n + 1, a21, a24, v1, v3 => (if (5 : Int32) ≤ v3 then (bX11_next_158 u c0_30 a9 a10 k17 a21 a24 v1) else k_i 77 ((48 : Int32) + v3) (k_i 5 v3 (k_i 77 ((48 : Int32) + v3) (k_i 77 ((58 : Int32) + v3) (k_i 5 v3 (k_i 77 ((58 : Int32) + v3) ((bX11_next_111 u c0_30 a9 a10 k17 n (upd (upd a21 ((((48 : Int32) + v3)).toNatClampNeg) ((a21 ((((48 : Int32) + v3)).toNatClampNeg)) - (a24 ((v3).toNatClampNeg)))) ((((58 : Int32) + v3)).toNatClampNeg) (((upd a21 ((((48 : Int32) + v3)).toNatClampNeg) ((a21 ((((48 : Int32) + v3)).toNatClampNeg)) - (a24 ((v3).toNatClampNeg)))) ((((58 : Int32) + v3)).toNatClampNeg)) + (a24 ((v3).toNatClampNeg)))) a24 v1 (v3 + (1 : Int32))))))))))
set_option maxHeartbeats 400000 in
set_option maxRecDepth 100000 in
theorem sX11_next_111 (u : Nat) {X : k_X} {ad : Nat → Nat} (C : k_C X cX11_next RX11 4 ad) (hr : X.meth.sig.returnType = (some .boolean)) (hR : X.R.frames = 1 ∧ X.R.locals = 23) {I : Nat → Nat → Int32} {L : Nat → Nat → Int64} {Rf : Nat → Nat → Option Nat} {c0_30 : Int32} (ec0_30 : I 0 30 = c0_30) {a9 : (Nat → Int32)} (ea9 : I 9 = a9) {a10 : (Nat → Int32)} (ea10 : I 10 = a10) {out : Int32 × (Nat → Int32) × (Nat → Int32)} {k17 : (Nat → Int32) → (Nat → Int32) → Int32 → Option (Int32 × (Nat → Int32) × (Nat → Int32))} (hk17 : ∀ (a21 : (Nat → Int32)) (a24 : (Nat → Int32)) (v1 : Int32), k17 a21 a24 v1 = some out → k_W X 4 0 0 (k_Q X ad (some (.int out.1)) (k_ap [(21, .inr (.inr (.inl out.2.1))), (24, .inr (.inr (.inl out.2.2)))] (shM, I, L, Rf))) ad (k_ap [(21, .inr (.inr (.inl a21))), (24, .inr (.inr (.inl a24)))] (shM, I, L, Rf)) 17 [some (.ref 0), some (.int v1), none, none] []) : ∀ (n : Nat) (a21 : (Nat → Int32)) (a24 : (Nat → Int32)) (v1 : Int32) (v3 : Int32), bX11_next_111 u c0_30 a9 a10 k17 n a21 a24 v1 v3 = some out → k_W X 4 0 0 (k_Q X ad (some (.int out.1)) (k_ap [(21, .inr (.inr (.inl out.2.1))), (24, .inr (.inr (.inl out.2.2)))] (shM, I, L, Rf))) ad (k_ap [(21, .inr (.inr (.inl a21))), (24, .inr (.inr (.inl a24)))] (shM, I, L, Rf)) 111 [some (.ref 0), some (.int v1), none, some (.int v3)] [] := by
  intro n
  induction n with
  | zero => intro a21 a24 v1 v3 h; cases h
  | succ n ih =>
    intro a21 a24 v1 v3 h
    refine r_iload_n C dX11_next_111 (rfl : 111 + 1 = 112) rfl ?_
    refine r_iconst (v := (5 : Int32)) C dX11_next_112 (rfl : 112 + 1 = 113) rfl ?_
    refine r_icmp_ge (tgt := 158) C dX11_next_113 (by decide) (rfl : 113 + 3 = 116) (fun c113 => ?_) (fun c113 => ?_)
    · have h := k_t c113 h
      refine k_mask [true, true, false, false] ?_
      exact sX11_next_158 u C hr hR ec0_30 ea9 ea10 hk17 a21 a24 v1 h
    · have h := k_f c113 h
      refine r_aload_n C dX11_next_116 (rfl : 116 + 1 = 117) rfl ?_
      refine r_getR (q := 21) C dX11_next_117 (rfl : 117 + 3 = 120) fl_X11_77 rfl rfl ?_
      refine r_bipush (v := (48 : Int32)) C dX11_next_120 (rfl : 120 + 2 = 122) rfl ?_
      refine r_iload_n C dX11_next_122 (rfl : 122 + 1 = 123) rfl ?_
      refine r_iadd C dX11_next_123 (rfl : 123 + 1 = 124) ?_
      refine r_dup2 C dX11_next_124 (rfl : 124 + 1 = 125) rfl rfl ?_
      obtain ⟨hi125, h⟩ := k_i_of h
      refine a_i (j := (((48 : Int32) + v3)).toNatClampNeg) (f := a21) C dX11_next_125 (rfl : 125 + 1 = 126) rfl rfl hi125 rfl ?_
      refine r_aload_n C dX11_next_126 (rfl : 126 + 1 = 127) rfl ?_
      refine r_getR (q := 24) C dX11_next_127 (rfl : 127 + 3 = 130) fl_X11_87 rfl rfl ?_
      refine r_iload_n C dX11_next_130 (rfl : 130 + 1 = 131) rfl ?_
      obtain ⟨hi131, h⟩ := k_i_of h
      refine a_i (j := (v3).toNatClampNeg) (f := a24) C dX11_next_131 (rfl : 131 + 1 = 132) rfl rfl hi131 rfl ?_
      refine r_isub C dX11_next_132 (rfl : 132 + 1 = 133) ?_
      obtain ⟨hi133, h⟩ := k_i_of h
      refine s_i (j := (((48 : Int32) + v3)).toNatClampNeg) (f := a21) (us' := [(21, .inr (.inr (.inl (upd a21 ((((48 : Int32) + v3)).toNatClampNeg) ((a21 ((((48 : Int32) + v3)).toNatClampNeg)) - (a24 ((v3).toNatClampNeg))))))), (24, .inr (.inr (.inl a24)))]) C dX11_next_133 (rfl : 133 + 1 = 134) rfl rfl hi133 rfl ds_X11_next rfl rfl rfl ?_
      refine r_aload_n C dX11_next_134 (rfl : 134 + 1 = 135) rfl ?_
      refine r_getR (q := 21) C dX11_next_135 (rfl : 135 + 3 = 138) fl_X11_77 rfl rfl ?_
      refine r_bipush (v := (58 : Int32)) C dX11_next_138 (rfl : 138 + 2 = 140) rfl ?_
      refine r_iload_n C dX11_next_140 (rfl : 140 + 1 = 141) rfl ?_
      refine r_iadd C dX11_next_141 (rfl : 141 + 1 = 142) ?_
      refine r_dup2 C dX11_next_142 (rfl : 142 + 1 = 143) rfl rfl ?_
      obtain ⟨hi143, h⟩ := k_i_of h
      refine a_i (j := (((58 : Int32) + v3)).toNatClampNeg) (f := (upd a21 ((((48 : Int32) + v3)).toNatClampNeg) ((a21 ((((48 : Int32) + v3)).toNatClampNeg)) - (a24 ((v3).toNatClampNeg))))) C dX11_next_143 (rfl : 143 + 1 = 144) rfl rfl hi143 rfl ?_
      refine r_aload_n C dX11_next_144 (rfl : 144 + 1 = 145) rfl ?_
      refine r_getR (q := 24) C dX11_next_145 (rfl : 145 + 3 = 148) fl_X11_87 rfl rfl ?_
      refine r_iload_n C dX11_next_148 (rfl : 148 + 1 = 149) rfl ?_
      obtain ⟨hi149, h⟩ := k_i_of h
      refine a_i (j := (v3).toNatClampNeg) (f := a24) C dX11_next_149 (rfl : 149 + 1 = 150) rfl rfl hi149 rfl ?_
      refine r_iadd C dX11_next_150 (rfl : 150 + 1 = 151) ?_
      obtain ⟨hi151, h⟩ := k_i_of h
      refine s_i (j := (((58 : Int32) + v3)).toNatClampNeg) (f := (upd a21 ((((48 : Int32) + v3)).toNatClampNeg) ((a21 ((((48 : Int32) + v3)).toNatClampNeg)) - (a24 ((v3).toNatClampNeg))))) (us' := [(21, .inr (.inr (.inl (upd (upd a21 ((((48 : Int32) + v3)).toNatClampNeg) ((a21 ((((48 : Int32) + v3)).toNatClampNeg)) - (a24 ((v3).toNatClampNeg)))) ((((58 : Int32) + v3)).toNatClampNeg) (((upd a21 ((((48 : Int32) + v3)).toNatClampNeg) ((a21 ((((48 : Int32) + v3)).toNatClampNeg)) - (a24 ((v3).toNatClampNeg)))) ((((58 : Int32) + v3)).toNatClampNeg)) + (a24 ((v3).toNatClampNeg))))))), (24, .inr (.inr (.inl a24)))]) C dX11_next_151 (rfl : 151 + 1 = 152) rfl rfl hi151 rfl ds_X11_next rfl rfl rfl ?_
      refine r_iinc (v := (v3 + (1 : Int32))) C dX11_next_152 (rfl : 152 + 3 = 155) rfl rfl (by decide) ?_
      show k_W _ _ _ _ _ _ _ _ [some (.ref 0), some (.int v1), none, some (.int (v3 + (1 : Int32)))] _
      refine r_goto (tgt := 111) C dX11_next_155 (by decide) ?_
      refine k_mask [true, true, false, true] ?_
      exact ih (upd (upd a21 ((((48 : Int32) + v3)).toNatClampNeg) ((a21 ((((48 : Int32) + v3)).toNatClampNeg)) - (a24 ((v3).toNatClampNeg)))) ((((58 : Int32) + v3)).toNatClampNeg) (((upd a21 ((((48 : Int32) + v3)).toNatClampNeg) ((a21 ((((48 : Int32) + v3)).toNatClampNeg)) - (a24 ((v3).toNatClampNeg)))) ((((58 : Int32) + v3)).toNatClampNeg)) + (a24 ((v3).toNatClampNeg)))) a24 v1 (v3 + (1 : Int32)) h
def bX11_next_86 (u : Nat) (c0_30 : Int32) (a9 : (Nat → Int32)) (a10 : (Nat → Int32)) (k17 : (Nat → Int32) → (Nat → Int32) → Int32 → Option (Int32 × (Nat → Int32) × (Nat → Int32))) (a21 : (Nat → Int32)) (a24 : (Nat → Int32)) (v1 : Int32) (v2 : Int32) (w0 : Int32) (w1 : Int32) : Option (Int32 × (Nat → Int32) × (Nat → Int32)) := k_i 77 w1 ((if v2 = (0 : Int32) then (bX11_next_158 u c0_30 a9 a10 k17 (upd a21 ((w1).toNatClampNeg) w0) a24 v1) else k_b (f_X11_worthOf u a9 a10 v1) (fun r104 => (bX11_next_111 u c0_30 a9 a10 k17 u (upd (upd a21 ((w1).toNatClampNeg) w0) 72 (((upd a21 ((w1).toNatClampNeg) w0) 72) + r104)) a24 v1 (0 : Int32)))))
set_option maxHeartbeats 400000 in
set_option maxRecDepth 100000 in
theorem sX11_next_86 (u : Nat) {X : k_X} {ad : Nat → Nat} (C : k_C X cX11_next RX11 4 ad) (hr : X.meth.sig.returnType = (some .boolean)) (hR : X.R.frames = 1 ∧ X.R.locals = 23) {I : Nat → Nat → Int32} {L : Nat → Nat → Int64} {Rf : Nat → Nat → Option Nat} {c0_30 : Int32} (ec0_30 : I 0 30 = c0_30) {a9 : (Nat → Int32)} (ea9 : I 9 = a9) {a10 : (Nat → Int32)} (ea10 : I 10 = a10) {out : Int32 × (Nat → Int32) × (Nat → Int32)} {k17 : (Nat → Int32) → (Nat → Int32) → Int32 → Option (Int32 × (Nat → Int32) × (Nat → Int32))} (hk17 : ∀ (a21 : (Nat → Int32)) (a24 : (Nat → Int32)) (v1 : Int32), k17 a21 a24 v1 = some out → k_W X 4 0 0 (k_Q X ad (some (.int out.1)) (k_ap [(21, .inr (.inr (.inl out.2.1))), (24, .inr (.inr (.inl out.2.2)))] (shM, I, L, Rf))) ad (k_ap [(21, .inr (.inr (.inl a21))), (24, .inr (.inr (.inl a24)))] (shM, I, L, Rf)) 17 [some (.ref 0), some (.int v1), none, none] []) : ∀ (a21 : (Nat → Int32)) (a24 : (Nat → Int32)) (v1 : Int32) (v2 : Int32) (w0 : Int32) (w1 : Int32), bX11_next_86 u c0_30 a9 a10 k17 a21 a24 v1 v2 w0 w1 = some out → k_W X 4 0 0 (k_Q X ad (some (.int out.1)) (k_ap [(21, .inr (.inr (.inl out.2.1))), (24, .inr (.inr (.inl out.2.2)))] (shM, I, L, Rf))) ad (k_ap [(21, .inr (.inr (.inl a21))), (24, .inr (.inr (.inl a24)))] (shM, I, L, Rf)) 86 [some (.ref 0), some (.int v1), some (.int v2), none] [.int w0, .int w1, .ref 21] := by
  intro a21 a24 v1 v2 w0 w1 h
  unfold bX11_next_86 at h
  obtain ⟨hi86, h⟩ := k_i_of h
  refine s_i (j := (w1).toNatClampNeg) (f := a21) (us' := [(21, .inr (.inr (.inl (upd a21 ((w1).toNatClampNeg) w0)))), (24, .inr (.inr (.inl a24)))]) C dX11_next_86 (rfl : 86 + 1 = 87) rfl rfl hi86 rfl ds_X11_next rfl rfl rfl ?_
  refine r_iload_n C dX11_next_87 (rfl : 87 + 1 = 88) rfl ?_
  refine r_if_ne (tgt := 94) C dX11_next_88 (by decide) (rfl : 88 + 3 = 91) (fun c88 => ?_) (fun c88 => ?_)
  · have h := k_f c88 h
    refine r_aload_n C dX11_next_94 (rfl : 94 + 1 = 95) rfl ?_
    refine r_getR (q := 21) C dX11_next_95 (rfl : 95 + 3 = 98) fl_X11_77 rfl rfl ?_
    refine r_bipush (v := (72 : Int32)) C dX11_next_98 (rfl : 98 + 2 = 100) rfl ?_
    refine r_dup2 C dX11_next_100 (rfl : 100 + 1 = 101) rfl rfl ?_
    refine a_i (j := 72) (f := (upd a21 ((w1).toNatClampNeg) w0)) C dX11_next_101 (rfl : 101 + 1 = 102) rfl rfl (show ¬ ((72 : Int32) < 0 ∨ 77 ≤ ((72 : Int32)).toNatClampNeg) by decide) rfl ?_
    refine r_aload_n C dX11_next_102 (rfl : 102 + 1 = 103) rfl ?_
    refine r_iload_n C dX11_next_103 (rfl : 103 + 1 = 104) rfl ?_
    obtain ⟨r104, q104, h⟩ := k_b_of h
    refine d_V (As := [.int v1]) (st := [.int ((upd a21 ((w1).toNatClampNeg) w0) 72), .int (72 : Int32), .ref 21]) (st' := [.int r104, .int ((upd a21 ((w1).toNatClampNeg) w0) 72), .int (72 : Int32), .ref 21]) (h' := k_ap [(21, .inr (.inr (.inl (upd a21 ((w1).toNatClampNeg) w0)))), (24, .inr (.inr (.inl a24)))] (shM, I, L, Rf)) C hR ⟨Nat.zero_le _, Nat.zero_le _⟩ mv_X11_worthOf lk_X11_403 dX11_next_104 (rfl : 104 + 3 = 107) rfl rfl rfl rfl (c_X11_worthOf X.l u (k_ap [(21, .inr (.inr (.inl (upd a21 ((w1).toNatClampNeg) w0)))), (24, .inr (.inr (.inl a24)))] (shM, I, L, Rf)) rfl ea9 ea10 q104) rfl rfl rfl rfl rfl ?_
    refine r_iadd C dX11_next_107 (rfl : 107 + 1 = 108) ?_
    refine s_i (j := 72) (f := (upd a21 ((w1).toNatClampNeg) w0)) (us' := [(21, .inr (.inr (.inl (upd (upd a21 ((w1).toNatClampNeg) w0) 72 (((upd a21 ((w1).toNatClampNeg) w0) 72) + r104))))), (24, .inr (.inr (.inl a24)))]) C dX11_next_108 (rfl : 108 + 1 = 109) rfl rfl (show ¬ ((72 : Int32) < 0 ∨ 77 ≤ ((72 : Int32)).toNatClampNeg) by decide) rfl ds_X11_next rfl rfl rfl ?_
    refine r_iconst (v := (0 : Int32)) C dX11_next_109 (rfl : 109 + 1 = 110) rfl ?_
    refine r_istore_n C dX11_next_110 (rfl : 110 + 1 = 111) (by decide) (Nat.le_of_ble_eq_true rfl) ?_
    show k_W _ _ _ _ _ _ _ _ [some (.ref 0), some (.int v1), some (.int v2), some (.int (0 : Int32))] _
    refine k_mask [true, true, false, true] ?_
    exact sX11_next_111 u C hr hR ec0_30 ea9 ea10 hk17 u (upd (upd a21 ((w1).toNatClampNeg) w0) 72 (((upd a21 ((w1).toNatClampNeg) w0) 72) + r104)) a24 v1 (0 : Int32) h
  · have h := k_t c88 h
    refine r_goto (tgt := 158) C dX11_next_91 (by decide) ?_
    refine k_mask [true, true, false, false] ?_
    exact sX11_next_158 u C hr hR ec0_30 ea9 ea10 hk17 (upd a21 ((w1).toNatClampNeg) w0) a24 v1 h
def bX11_next_68 (u : Nat) (c0_30 : Int32) (a9 : (Nat → Int32)) (a10 : (Nat → Int32)) (k17 : (Nat → Int32) → (Nat → Int32) → Int32 → Option (Int32 × (Nat → Int32) × (Nat → Int32))) (a21 : (Nat → Int32)) (a24 : (Nat → Int32)) (v1 : Int32) (w0 : Int32) : Option (Int32 × (Nat → Int32) × (Nat → Int32)) := (if w0 = (0 : Int32) then (bX11_next_86 u c0_30 a9 a10 k17 a21 a24 v1 w0 (2 : Int32) ((63 : Int32) + v1)) else (bX11_next_86 u c0_30 a9 a10 k17 a21 a24 v1 w0 (1 : Int32) ((63 : Int32) + v1)))
set_option maxHeartbeats 400000 in
set_option maxRecDepth 100000 in
theorem sX11_next_68 (u : Nat) {X : k_X} {ad : Nat → Nat} (C : k_C X cX11_next RX11 4 ad) (hr : X.meth.sig.returnType = (some .boolean)) (hR : X.R.frames = 1 ∧ X.R.locals = 23) {I : Nat → Nat → Int32} {L : Nat → Nat → Int64} {Rf : Nat → Nat → Option Nat} {c0_30 : Int32} (ec0_30 : I 0 30 = c0_30) {a9 : (Nat → Int32)} (ea9 : I 9 = a9) {a10 : (Nat → Int32)} (ea10 : I 10 = a10) {out : Int32 × (Nat → Int32) × (Nat → Int32)} {k17 : (Nat → Int32) → (Nat → Int32) → Int32 → Option (Int32 × (Nat → Int32) × (Nat → Int32))} (hk17 : ∀ (a21 : (Nat → Int32)) (a24 : (Nat → Int32)) (v1 : Int32), k17 a21 a24 v1 = some out → k_W X 4 0 0 (k_Q X ad (some (.int out.1)) (k_ap [(21, .inr (.inr (.inl out.2.1))), (24, .inr (.inr (.inl out.2.2)))] (shM, I, L, Rf))) ad (k_ap [(21, .inr (.inr (.inl a21))), (24, .inr (.inr (.inl a24)))] (shM, I, L, Rf)) 17 [some (.ref 0), some (.int v1), none, none] []) : ∀ (a21 : (Nat → Int32)) (a24 : (Nat → Int32)) (v1 : Int32) (w0 : Int32), bX11_next_68 u c0_30 a9 a10 k17 a21 a24 v1 w0 = some out → k_W X 4 0 0 (k_Q X ad (some (.int out.1)) (k_ap [(21, .inr (.inr (.inl out.2.1))), (24, .inr (.inr (.inl out.2.2)))] (shM, I, L, Rf))) ad (k_ap [(21, .inr (.inr (.inl a21))), (24, .inr (.inr (.inl a24)))] (shM, I, L, Rf)) 68 [some (.ref 0), some (.int v1), none, none] [.int w0] := by
  intro a21 a24 v1 w0 h
  unfold bX11_next_68 at h
  refine r_istore_n C dX11_next_68 (rfl : 68 + 1 = 69) (by decide) (Nat.le_of_ble_eq_true rfl) ?_
  show k_W _ _ _ _ _ _ _ _ [some (.ref 0), some (.int v1), some (.int w0), none] _
  refine r_aload_n C dX11_next_69 (rfl : 69 + 1 = 70) rfl ?_
  refine r_getR (q := 21) C dX11_next_70 (rfl : 70 + 3 = 73) fl_X11_77 rfl rfl ?_
  refine r_bipush (v := (63 : Int32)) C dX11_next_73 (rfl : 73 + 2 = 75) rfl ?_
  refine r_iload_n C dX11_next_75 (rfl : 75 + 1 = 76) rfl ?_
  refine r_iadd C dX11_next_76 (rfl : 76 + 1 = 77) ?_
  refine r_iload_n C dX11_next_77 (rfl : 77 + 1 = 78) rfl ?_
  refine r_if_eq (tgt := 85) C dX11_next_78 (by decide) (rfl : 78 + 3 = 81) (fun c78 => ?_) (fun c78 => ?_)
  · have h := k_t c78 h
    refine r_iconst (v := (2 : Int32)) C dX11_next_85 (rfl : 85 + 1 = 86) rfl ?_
    refine k_mask [true, true, true, false] ?_
    exact sX11_next_86 u C hr hR ec0_30 ea9 ea10 hk17 a21 a24 v1 w0 (2 : Int32) ((63 : Int32) + v1) h
  · have h := k_f c78 h
    refine r_iconst (v := (1 : Int32)) C dX11_next_81 (rfl : 81 + 1 = 82) rfl ?_
    refine r_goto (tgt := 86) C dX11_next_82 (by decide) ?_
    refine k_mask [true, true, true, false] ?_
    exact sX11_next_86 u C hr hR ec0_30 ea9 ea10 hk17 a21 a24 v1 w0 (1 : Int32) ((63 : Int32) + v1) h
def bX11_next_17 (u : Nat) (c0_30 : Int32) (a9 : (Nat → Int32)) (a10 : (Nat → Int32)) : Nat → (Nat → Int32) → (Nat → Int32) → Int32 → Option (Int32 × (Nat → Int32) × (Nat → Int32))
  | 0, _, _, _ => none
  | n + 1, a21, a24, v1 => (if c0_30 ≤ v1 then some ((1 : Int32), (upd (upd a21 69 ((a21 69) + (1 : Int32))) 70 (0 : Int32)), a24) else k_i 60 ((10 : Int32) * v1) ((if (a10 ((((10 : Int32) * v1)).toNatClampNeg)) = (a21 69) then k_b (f_X11_wantsNothing u a24) (fun r48 => k_b (f_X11_adds u a10 r48 v1) (fun r53 => k_b (f_X11_lackNow u a21 r53) (fun r57 => (if r57 = (0 : Int32) then (bX11_next_68 u c0_30 a9 a10 (bX11_next_17 u c0_30 a9 a10 n) a21 r53 v1 (1 : Int32)) else (bX11_next_68 u c0_30 a9 a10 (bX11_next_17 u c0_30 a9 a10 n) a21 r53 v1 (0 : Int32)))))) else (bX11_next_158 u c0_30 a9 a10 (bX11_next_17 u c0_30 a9 a10 n) a21 a24 v1))))
set_option maxHeartbeats 400000 in
set_option maxRecDepth 100000 in
theorem sX11_next_17 (u : Nat) {X : k_X} {ad : Nat → Nat} (C : k_C X cX11_next RX11 4 ad) (hr : X.meth.sig.returnType = (some .boolean)) (hR : X.R.frames = 1 ∧ X.R.locals = 23) {I : Nat → Nat → Int32} {L : Nat → Nat → Int64} {Rf : Nat → Nat → Option Nat} {c0_30 : Int32} (ec0_30 : I 0 30 = c0_30) {a9 : (Nat → Int32)} (ea9 : I 9 = a9) {a10 : (Nat → Int32)} (ea10 : I 10 = a10) {out : Int32 × (Nat → Int32) × (Nat → Int32)} : ∀ (n : Nat) (a21 : (Nat → Int32)) (a24 : (Nat → Int32)) (v1 : Int32), bX11_next_17 u c0_30 a9 a10 n a21 a24 v1 = some out → k_W X 4 0 0 (k_Q X ad (some (.int out.1)) (k_ap [(21, .inr (.inr (.inl out.2.1))), (24, .inr (.inr (.inl out.2.2)))] (shM, I, L, Rf))) ad (k_ap [(21, .inr (.inr (.inl a21))), (24, .inr (.inr (.inl a24)))] (shM, I, L, Rf)) 17 [some (.ref 0), some (.int v1), none, none] [] := by
  intro n
  induction n with
  | zero => intro a21 a24 v1 h; cases h
  | succ n ih =>
    intro a21 a24 v1 h
    refine r_iload_n C dX11_next_17 (rfl : 17 + 1 = 18) rfl ?_
    refine r_aload_n C dX11_next_18 (rfl : 18 + 1 = 19) rfl ?_
    refine r_getI (v := c0_30) C dX11_next_19 (rfl : 19 + 3 = 22) fl_X11_199 rfl rfl ec0_30 ?_
    refine r_icmp_ge (tgt := 164) C dX11_next_22 (by decide) (rfl : 22 + 3 = 25) (fun c22 => ?_) (fun c22 => ?_)
    · have h := k_t c22 h
      refine r_aload_n C dX11_next_164 (rfl : 164 + 1 = 165) rfl ?_
      refine r_getR (q := 21) C dX11_next_165 (rfl : 165 + 3 = 168) fl_X11_77 rfl rfl ?_
      refine r_bipush (v := (69 : Int32)) C dX11_next_168 (rfl : 168 + 2 = 170) rfl ?_
      refine r_dup2 C dX11_next_170 (rfl : 170 + 1 = 171) rfl rfl ?_
      refine a_i (j := 69) (f := a21) C dX11_next_171 (rfl : 171 + 1 = 172) rfl rfl (show ¬ ((69 : Int32) < 0 ∨ 77 ≤ ((69 : Int32)).toNatClampNeg) by decide) rfl ?_
      refine r_iconst (v := (1 : Int32)) C dX11_next_172 (rfl : 172 + 1 = 173) rfl ?_
      refine r_iadd C dX11_next_173 (rfl : 173 + 1 = 174) ?_
      refine s_i (j := 69) (f := a21) (us' := [(21, .inr (.inr (.inl (upd a21 69 ((a21 69) + (1 : Int32)))))), (24, .inr (.inr (.inl a24)))]) C dX11_next_174 (rfl : 174 + 1 = 175) rfl rfl (show ¬ ((69 : Int32) < 0 ∨ 77 ≤ ((69 : Int32)).toNatClampNeg) by decide) rfl ds_X11_next rfl rfl rfl ?_
      refine r_aload_n C dX11_next_175 (rfl : 175 + 1 = 176) rfl ?_
      refine r_getR (q := 21) C dX11_next_176 (rfl : 176 + 3 = 179) fl_X11_77 rfl rfl ?_
      refine r_bipush (v := (70 : Int32)) C dX11_next_179 (rfl : 179 + 2 = 181) rfl ?_
      refine r_iconst (v := (0 : Int32)) C dX11_next_181 (rfl : 181 + 1 = 182) rfl ?_
      refine s_i (j := 70) (f := (upd a21 69 ((a21 69) + (1 : Int32)))) (us' := [(21, .inr (.inr (.inl (upd (upd a21 69 ((a21 69) + (1 : Int32))) 70 (0 : Int32))))), (24, .inr (.inr (.inl a24)))]) C dX11_next_182 (rfl : 182 + 1 = 183) rfl rfl (show ¬ ((70 : Int32) < 0 ∨ 77 ≤ ((70 : Int32)).toNatClampNeg) by decide) rfl ds_X11_next rfl rfl rfl ?_
      refine r_iconst (v := (1 : Int32)) C dX11_next_183 (rfl : 183 + 1 = 184) rfl ?_
      cases h
      exact r_zret C hr (Or.inr rfl) dX11_next_184
    · have h := k_f c22 h
      refine r_aload_n C dX11_next_25 (rfl : 25 + 1 = 26) rfl ?_
      refine r_getR (q := 10) C dX11_next_26 (rfl : 26 + 3 = 29) fl_X11_44 rfl rfl ?_
      refine r_bipush (v := (10 : Int32)) C dX11_next_29 (rfl : 29 + 2 = 31) rfl ?_
      refine r_iload_n C dX11_next_31 (rfl : 31 + 1 = 32) rfl ?_
      refine r_imul C dX11_next_32 (rfl : 32 + 1 = 33) ?_
      obtain ⟨hi33, h⟩ := k_i_of h
      refine a_i (j := (((10 : Int32) * v1)).toNatClampNeg) (f := a10) C dX11_next_33 (rfl : 33 + 1 = 34) rfl ea10 hi33 rfl ?_
      refine r_aload_n C dX11_next_34 (rfl : 34 + 1 = 35) rfl ?_
      refine r_getR (q := 21) C dX11_next_35 (rfl : 35 + 3 = 38) fl_X11_77 rfl rfl ?_
      refine r_bipush (v := (69 : Int32)) C dX11_next_38 (rfl : 38 + 2 = 40) rfl ?_
      refine a_i (j := 69) (f := a21) C dX11_next_40 (rfl : 40 + 1 = 41) rfl rfl (show ¬ ((69 : Int32) < 0 ∨ 77 ≤ ((69 : Int32)).toNatClampNeg) by decide) rfl ?_
      refine r_icmp_eq (tgt := 47) C dX11_next_41 (by decide) (rfl : 41 + 3 = 44) (fun c41 => ?_) (fun c41 => ?_)
      · have h := k_t c41 h
        refine r_aload_n C dX11_next_47 (rfl : 47 + 1 = 48) rfl ?_
        obtain ⟨r48, q48, h⟩ := k_b_of h
        refine d_V (As := []) (st := []) (st' := []) (h' := k_ap [(21, .inr (.inr (.inl a21))), (24, .inr (.inr (.inl r48)))] (shM, I, L, Rf)) C hR ⟨Nat.zero_le _, Nat.zero_le _⟩ mv_X11_wantsNothing lk_X11_394 dX11_next_48 (rfl : 48 + 3 = 51) rfl rfl rfl rfl (c_X11_wantsNothing X.l u (k_ap [(21, .inr (.inr (.inl a21))), (24, .inr (.inr (.inl a24)))] (shM, I, L, Rf)) rfl rfl q48) rfl rfl rfl (k_jn (us' := [(21, .inr (.inr (.inl a21))), (24, .inr (.inr (.inl r48)))]) ds_X11_next rfl rfl rfl) rfl ?_
        refine r_aload_n C dX11_next_51 (rfl : 51 + 1 = 52) rfl ?_
        refine r_iload_n C dX11_next_52 (rfl : 52 + 1 = 53) rfl ?_
        obtain ⟨r53, q53, h⟩ := k_b_of h
        refine d_V (As := [.int v1]) (st := []) (st' := []) (h' := k_ap [(21, .inr (.inr (.inl a21))), (24, .inr (.inr (.inl r53)))] (shM, I, L, Rf)) C hR ⟨Nat.zero_le _, Nat.zero_le _⟩ mv_X11_adds lk_X11_397 dX11_next_53 (rfl : 53 + 3 = 56) rfl rfl rfl rfl (c_X11_adds X.l u (k_ap [(21, .inr (.inr (.inl a21))), (24, .inr (.inr (.inl r48)))] (shM, I, L, Rf)) rfl ea10 rfl q53) rfl rfl rfl (k_jn (us' := [(21, .inr (.inr (.inl a21))), (24, .inr (.inr (.inl r53)))]) ds_X11_next rfl rfl rfl) rfl ?_
        refine r_aload_n C dX11_next_56 (rfl : 56 + 1 = 57) rfl ?_
        obtain ⟨r57, q57, h⟩ := k_b_of h
        refine d_V (As := []) (st := []) (st' := [.int r57]) (h' := k_ap [(21, .inr (.inr (.inl a21))), (24, .inr (.inr (.inl r53)))] (shM, I, L, Rf)) C hR ⟨Nat.zero_le _, Nat.zero_le _⟩ mv_X11_lackNow lk_X11_400 dX11_next_57 (rfl : 57 + 3 = 60) rfl rfl rfl rfl (c_X11_lackNow X.l u (k_ap [(21, .inr (.inr (.inl a21))), (24, .inr (.inr (.inl r53)))] (shM, I, L, Rf)) rfl rfl rfl q57) rfl rfl rfl rfl rfl ?_
        refine r_if_ne (tgt := 67) C dX11_next_60 (by decide) (rfl : 60 + 3 = 63) (fun c60 => ?_) (fun c60 => ?_)
        · have h := k_f c60 h
          refine r_iconst (v := (0 : Int32)) C dX11_next_67 (rfl : 67 + 1 = 68) rfl ?_
          refine k_mask [true, true, false, false] ?_
          exact sX11_next_68 u C hr hR ec0_30 ea9 ea10 ih a21 r53 v1 (0 : Int32) h
        · have h := k_t c60 h
          refine r_iconst (v := (1 : Int32)) C dX11_next_63 (rfl : 63 + 1 = 64) rfl ?_
          refine r_goto (tgt := 68) C dX11_next_64 (by decide) ?_
          refine k_mask [true, true, false, false] ?_
          exact sX11_next_68 u C hr hR ec0_30 ea9 ea10 ih a21 r53 v1 (1 : Int32) h
      · have h := k_f c41 h
        refine r_goto (tgt := 158) C dX11_next_44 (by decide) ?_
        refine k_mask [true, true, false, false] ?_
        exact sX11_next_158 u C hr hR ec0_30 ea9 ea10 ih a21 a24 v1 h
def f_X11_next (u : Nat) (c0_30 : Int32) (a9 : (Nat → Int32)) (a10 : (Nat → Int32)) (a21 : (Nat → Int32)) (a24 : (Nat → Int32)) : Option (Int32 × (Nat → Int32) × (Nat → Int32)) := (if (a21 69) = (200 : Int32) then some ((0 : Int32), a21, a24) else (bX11_next_17 u c0_30 a9 a10 u a21 a24 (0 : Int32)))
set_option maxHeartbeats 400000 in
set_option maxRecDepth 100000 in
theorem c_X11_next (l : Launch) (u : Nat) (h : k_H) (hsh : h.1 = shM) {c0_30 : Int32} (ec0_30 : h.2.1 0 30 = c0_30) {a9 : (Nat → Int32)} (ea9 : h.2.1 9 = a9) {a10 : (Nat → Int32)} (ea10 : h.2.1 10 = a10) {a21 : (Nat → Int32)} (ea21 : h.2.1 21 = a21) {a24 : (Nat → Int32)} (ea24 : h.2.1 24 = a24) {out : Int32 × (Nat → Int32) × (Nat → Int32)} (hf : f_X11_next u c0_30 a9 a10 a21 a24 = some out) : k_CT l yX11_next cX11_next 4 (some .boolean) 1 23 [.ref 0] h (some (.int out.1)) [(21, .inr (.inr (.inl out.2.1))), (24, .inr (.inr (.inl out.2.2)))] := by
  obtain ⟨sh, I, L, Rf⟩ := h
  obtain rfl : sh = shM := hsh
  obtain rfl := ea21
  obtain rfl := ea24
  refine k_ofW (by decide) (Nat.le_of_ble_eq_true rfl) ?_
  intro X ad hl hR0 hr C
  have hR : X.R.frames = 1 ∧ X.R.locals = 23 := by rw [hR0]; exact ⟨rfl, rfl⟩
  have h := hf
  unfold f_X11_next at h
  refine k_start (us := [(21, .inr (.inr (.inl (I 21)))), (24, .inr (.inr (.inl (I 24))))]) (k_ap_A (k_ap_A k_ap_0)) ?_
  show k_W X 4 0 0 _ ad (k_ap [(21, .inr (.inr (.inl (I 21)))), (24, .inr (.inr (.inl (I 24))))] (shM, I, L, Rf)) 0 [some (.ref 0), none, none, none] []
  refine r_aload_n C dX11_next_0 (rfl : 0 + 1 = 1) rfl ?_
  refine r_getR (q := 21) C dX11_next_1 (rfl : 1 + 3 = 4) fl_X11_77 rfl rfl ?_
  refine r_bipush (v := (69 : Int32)) C dX11_next_4 (rfl : 4 + 2 = 6) rfl ?_
  refine a_i (j := 69) (f := (I 21)) C dX11_next_6 (rfl : 6 + 1 = 7) rfl rfl (show ¬ ((69 : Int32) < 0 ∨ 77 ≤ ((69 : Int32)).toNatClampNeg) by decide) rfl ?_
  refine r_sipush (v := (200 : Int32)) C dX11_next_7 (rfl : 7 + 3 = 10) rfl ?_
  refine r_icmp_ne (tgt := 15) C dX11_next_10 (by decide) (rfl : 10 + 3 = 13) (fun c10 => ?_) (fun c10 => ?_)
  · have h := k_f c10 h
    refine r_iconst (v := (0 : Int32)) C dX11_next_15 (rfl : 15 + 1 = 16) rfl ?_
    refine r_istore_n C dX11_next_16 (rfl : 16 + 1 = 17) (by decide) (Nat.le_of_ble_eq_true rfl) ?_
    show k_W _ _ _ _ _ _ _ _ [some (.ref 0), some (.int (0 : Int32)), none, none] _
    refine k_mask [true, true, false, false] ?_
    exact sX11_next_17 u C hr hR ec0_30 ea9 ea10 u (I 21) (I 24) (0 : Int32) h
  · have h := k_t c10 h
    refine r_iconst (v := (0 : Int32)) C dX11_next_13 (rfl : 13 + 1 = 14) rfl ?_
    cases h
    exact r_zret C hr (Or.inl rfl) dX11_next_14
/-! LullabyPitModel.goes(III)Z -/
theorem ds_X11_goes : k_ds [(16, 2, 0), (17, 2, 0), (21, 2, 0), (23, 2, 0), (24, 2, 0)] = true := by decide
def f_X11_goes (u : Nat) (c0_25 : Int32) (c0_26 : Int32) (c0_27 : Int32) (c0_28 : Int32) (c0_30 : Int32) (a7 : (Nat → Int32)) (a8 : (Nat → Int32)) (a9 : (Nat → Int32)) (a10 : (Nat → Int32)) (a13 : (Nat → Int32)) (a14 : (Nat → Int32)) (a15 : (Nat → Int32)) (a16 : (Nat → Int32)) (a17 : (Nat → Int32)) (a21 : (Nat → Int32)) (a23 : (Nat → Int32)) (a24 : (Nat → Int32)) (x0 : Int32) (x1 : Int32) (x2 : Int32) : Option (Int32 × (Nat → Int32) × (Nat → Int32) × (Nat → Int32) × (Nat → Int32) × (Nat → Int32)) := (if x0 = (3 : Int32) then k_b (f_X11_next u c0_30 a9 a10 a21 a24) (fun r6 => k_z r6.1 (some (r6.1, a16, a17, r6.2.1, a23, r6.2.2))) else (if x0 = (0 : Int32) then k_b (f_X11_whyNot u c0_25 c0_26 c0_27 a21 x1) (fun r16 => (if r16 = (0 : Int32) then (if (a21 70) = c0_28 then some ((0 : Int32), a16, a17, a21, a23, a24) else k_b (f_X11_digs u c0_25 c0_26 a7 a8 a13 a14 a15 a16 a17 (upd a21 70 ((a21 70) + (1 : Int32))) a23 x1) (fun r51 => some ((1 : Int32), r51.1, r51.2.1, r51.2.2.1, r51.2.2.2, a24))) else some ((0 : Int32), a16, a17, a21, a23, a24))) else (if x0 = (1 : Int32) then k_i 77 x1 ((if (a21 ((x1).toNatClampNeg)) = (1 : Int32) then (if (a21 74) ≤ (x1 / (8 : Int32)) then some ((0 : Int32), a16, a17, a21, a23, a24) else (if (a21 71) = (0 : Int32) then some ((0 : Int32), a16, a17, a21, a23, a24) else k_i 77 x1 (some ((1 : Int32), a16, a17, (upd (upd a21 ((x1).toNatClampNeg) (2 : Int32)) 71 (((upd a21 ((x1).toNatClampNeg) (2 : Int32)) 71) - (1 : Int32))), a23, a24)))) else some ((0 : Int32), a16, a17, a21, a23, a24))) else (if x0 = (2 : Int32) then (if (a21 74) = c0_26 then some ((0 : Int32), a16, a17, a21, a23, a24) else (if (a21 70) = c0_28 then some ((0 : Int32), a16, a17, a21, a23, a24) else some ((1 : Int32), a16, a17, (upd (upd a21 74 c0_26) 70 (((upd a21 74 c0_26) 70) + (1 : Int32))), a23, a24))) else k_i 77 ((48 : Int32) + x1) ((if x2 ≤ (a21 ((((48 : Int32) + x1)).toNatClampNeg)) then k_i 77 ((48 : Int32) + x1) (k_i 77 ((48 : Int32) + x1) (k_i 77 ((53 : Int32) + x1) (k_i 77 ((53 : Int32) + x1) (k_i 5 x1 (some ((1 : Int32), a16, a17, (upd (upd (upd a21 ((((48 : Int32) + x1)).toNatClampNeg) ((a21 ((((48 : Int32) + x1)).toNatClampNeg)) - x2)) ((((53 : Int32) + x1)).toNatClampNeg) (((upd a21 ((((48 : Int32) + x1)).toNatClampNeg) ((a21 ((((48 : Int32) + x1)).toNatClampNeg)) - x2)) ((((53 : Int32) + x1)).toNatClampNeg)) + x2)) 72 (((upd (upd a21 ((((48 : Int32) + x1)).toNatClampNeg) ((a21 ((((48 : Int32) + x1)).toNatClampNeg)) - x2)) ((((53 : Int32) + x1)).toNatClampNeg) (((upd a21 ((((48 : Int32) + x1)).toNatClampNeg) ((a21 ((((48 : Int32) + x1)).toNatClampNeg)) - x2)) ((((53 : Int32) + x1)).toNatClampNeg)) + x2)) 72) + (x2 * (a9 ((x1).toNatClampNeg))))), a23, a24)))))) else some ((0 : Int32), a16, a17, a21, a23, a24)))))))
set_option maxHeartbeats 400000 in
set_option maxRecDepth 100000 in
theorem c_X11_goes (l : Launch) (u : Nat) (h : k_H) (hsh : h.1 = shM) {c0_25 : Int32} (ec0_25 : h.2.1 0 25 = c0_25) {c0_26 : Int32} (ec0_26 : h.2.1 0 26 = c0_26) {c0_27 : Int32} (ec0_27 : h.2.1 0 27 = c0_27) {c0_28 : Int32} (ec0_28 : h.2.1 0 28 = c0_28) {c0_30 : Int32} (ec0_30 : h.2.1 0 30 = c0_30) {a7 : (Nat → Int32)} (ea7 : h.2.1 7 = a7) {a8 : (Nat → Int32)} (ea8 : h.2.1 8 = a8) {a9 : (Nat → Int32)} (ea9 : h.2.1 9 = a9) {a10 : (Nat → Int32)} (ea10 : h.2.1 10 = a10) {a13 : (Nat → Int32)} (ea13 : h.2.1 13 = a13) {a14 : (Nat → Int32)} (ea14 : h.2.1 14 = a14) {a15 : (Nat → Int32)} (ea15 : h.2.1 15 = a15) {a16 : (Nat → Int32)} (ea16 : h.2.1 16 = a16) {a17 : (Nat → Int32)} (ea17 : h.2.1 17 = a17) {a21 : (Nat → Int32)} (ea21 : h.2.1 21 = a21) {a23 : (Nat → Int32)} (ea23 : h.2.1 23 = a23) {a24 : (Nat → Int32)} (ea24 : h.2.1 24 = a24) {x0 : Int32} {x1 : Int32} {x2 : Int32} {out : Int32 × (Nat → Int32) × (Nat → Int32) × (Nat → Int32) × (Nat → Int32) × (Nat → Int32)} (hf : f_X11_goes u c0_25 c0_26 c0_27 c0_28 c0_30 a7 a8 a9 a10 a13 a14 a15 a16 a17 a21 a23 a24 x0 x1 x2 = some out) : k_CT l yX11_goes cX11_goes 4 (some .boolean) 6 133 [.ref 0, .int x0, .int x1, .int x2] h (some (.int out.1)) [(16, .inr (.inr (.inl out.2.1))), (17, .inr (.inr (.inl out.2.2.1))), (21, .inr (.inr (.inl out.2.2.2.1))), (23, .inr (.inr (.inl out.2.2.2.2.1))), (24, .inr (.inr (.inl out.2.2.2.2.2)))] := by
  obtain ⟨sh, I, L, Rf⟩ := h
  obtain rfl : sh = shM := hsh
  obtain rfl := ea16
  obtain rfl := ea17
  obtain rfl := ea21
  obtain rfl := ea23
  obtain rfl := ea24
  refine k_ofW (by decide) (Nat.le_of_ble_eq_true rfl) ?_
  intro X ad hl hR0 hr C
  have hR : X.R.frames = 6 ∧ X.R.locals = 133 := by rw [hR0]; exact ⟨rfl, rfl⟩
  have h := hf
  unfold f_X11_goes at h
  refine k_start (us := [(16, .inr (.inr (.inl (I 16)))), (17, .inr (.inr (.inl (I 17)))), (21, .inr (.inr (.inl (I 21)))), (23, .inr (.inr (.inl (I 23)))), (24, .inr (.inr (.inl (I 24))))]) (k_ap_A (k_ap_A (k_ap_A (k_ap_A (k_ap_A k_ap_0))))) ?_
  show k_W X 4 0 0 _ ad (k_ap [(16, .inr (.inr (.inl (I 16)))), (17, .inr (.inr (.inl (I 17)))), (21, .inr (.inr (.inl (I 21)))), (23, .inr (.inr (.inl (I 23)))), (24, .inr (.inr (.inl (I 24))))] (shM, I, L, Rf)) 0 [some (.ref 0), some (.int x0), some (.int x1), some (.int x2)] []
  refine r_iload_n C dX11_goes_0 (rfl : 0 + 1 = 1) rfl ?_
  refine r_iconst (v := (3 : Int32)) C dX11_goes_1 (rfl : 1 + 1 = 2) rfl ?_
  refine r_icmp_ne (tgt := 10) C dX11_goes_2 (by decide) (rfl : 2 + 3 = 5) (fun c2 => ?_) (fun c2 => ?_)
  · have h := k_f c2 h
    refine r_iload_n C dX11_goes_10 (rfl : 10 + 1 = 11) rfl ?_
    refine r_if_ne (tgt := 56) C dX11_goes_11 (by decide) (rfl : 11 + 3 = 14) (fun c11 => ?_) (fun c11 => ?_)
    · have h := k_f c11 h
      refine r_iload_n C dX11_goes_56 (rfl : 56 + 1 = 57) rfl ?_
      refine r_iconst (v := (1 : Int32)) C dX11_goes_57 (rfl : 57 + 1 = 58) rfl ?_
      refine r_icmp_ne (tgt := 117) C dX11_goes_58 (by decide) (rfl : 58 + 3 = 61) (fun c58 => ?_) (fun c58 => ?_)
      · have h := k_f c58 h
        refine r_iload_n C dX11_goes_117 (rfl : 117 + 1 = 118) rfl ?_
        refine r_iconst (v := (2 : Int32)) C dX11_goes_118 (rfl : 118 + 1 = 119) rfl ?_
        refine r_icmp_ne (tgt := 176) C dX11_goes_119 (by decide) (rfl : 119 + 3 = 122) (fun c119 => ?_) (fun c119 => ?_)
        · have h := k_f c119 h
          refine r_aload_n C dX11_goes_176 (rfl : 176 + 1 = 177) rfl ?_
          refine r_getR (q := 21) C dX11_goes_177 (rfl : 177 + 3 = 180) fl_X11_77 rfl rfl ?_
          refine r_bipush (v := (48 : Int32)) C dX11_goes_180 (rfl : 180 + 2 = 182) rfl ?_
          refine r_iload_n C dX11_goes_182 (rfl : 182 + 1 = 183) rfl ?_
          refine r_iadd C dX11_goes_183 (rfl : 183 + 1 = 184) ?_
          obtain ⟨hi184, h⟩ := k_i_of h
          refine a_i (j := (((48 : Int32) + x1)).toNatClampNeg) (f := (I 21)) C dX11_goes_184 (rfl : 184 + 1 = 185) rfl rfl hi184 rfl ?_
          refine r_iload_n C dX11_goes_185 (rfl : 185 + 1 = 186) rfl ?_
          refine r_icmp_ge (tgt := 191) C dX11_goes_186 (by decide) (rfl : 186 + 3 = 189) (fun c186 => ?_) (fun c186 => ?_)
          · have h := k_t c186 h
            refine r_aload_n C dX11_goes_191 (rfl : 191 + 1 = 192) rfl ?_
            refine r_getR (q := 21) C dX11_goes_192 (rfl : 192 + 3 = 195) fl_X11_77 rfl rfl ?_
            refine r_bipush (v := (48 : Int32)) C dX11_goes_195 (rfl : 195 + 2 = 197) rfl ?_
            refine r_iload_n C dX11_goes_197 (rfl : 197 + 1 = 198) rfl ?_
            refine r_iadd C dX11_goes_198 (rfl : 198 + 1 = 199) ?_
            refine r_dup2 C dX11_goes_199 (rfl : 199 + 1 = 200) rfl rfl ?_
            obtain ⟨hi200, h⟩ := k_i_of h
            refine a_i (j := (((48 : Int32) + x1)).toNatClampNeg) (f := (I 21)) C dX11_goes_200 (rfl : 200 + 1 = 201) rfl rfl hi200 rfl ?_
            refine r_iload_n C dX11_goes_201 (rfl : 201 + 1 = 202) rfl ?_
            refine r_isub C dX11_goes_202 (rfl : 202 + 1 = 203) ?_
            obtain ⟨hi203, h⟩ := k_i_of h
            refine s_i (j := (((48 : Int32) + x1)).toNatClampNeg) (f := (I 21)) (us' := [(16, .inr (.inr (.inl (I 16)))), (17, .inr (.inr (.inl (I 17)))), (21, .inr (.inr (.inl (upd (I 21) ((((48 : Int32) + x1)).toNatClampNeg) (((I 21) ((((48 : Int32) + x1)).toNatClampNeg)) - x2))))), (23, .inr (.inr (.inl (I 23)))), (24, .inr (.inr (.inl (I 24))))]) C dX11_goes_203 (rfl : 203 + 1 = 204) rfl rfl hi203 rfl ds_X11_goes rfl rfl rfl ?_
            refine r_aload_n C dX11_goes_204 (rfl : 204 + 1 = 205) rfl ?_
            refine r_getR (q := 21) C dX11_goes_205 (rfl : 205 + 3 = 208) fl_X11_77 rfl rfl ?_
            refine r_bipush (v := (53 : Int32)) C dX11_goes_208 (rfl : 208 + 2 = 210) rfl ?_
            refine r_iload_n C dX11_goes_210 (rfl : 210 + 1 = 211) rfl ?_
            refine r_iadd C dX11_goes_211 (rfl : 211 + 1 = 212) ?_
            refine r_dup2 C dX11_goes_212 (rfl : 212 + 1 = 213) rfl rfl ?_
            obtain ⟨hi213, h⟩ := k_i_of h
            refine a_i (j := (((53 : Int32) + x1)).toNatClampNeg) (f := (upd (I 21) ((((48 : Int32) + x1)).toNatClampNeg) (((I 21) ((((48 : Int32) + x1)).toNatClampNeg)) - x2))) C dX11_goes_213 (rfl : 213 + 1 = 214) rfl rfl hi213 rfl ?_
            refine r_iload_n C dX11_goes_214 (rfl : 214 + 1 = 215) rfl ?_
            refine r_iadd C dX11_goes_215 (rfl : 215 + 1 = 216) ?_
            obtain ⟨hi216, h⟩ := k_i_of h
            refine s_i (j := (((53 : Int32) + x1)).toNatClampNeg) (f := (upd (I 21) ((((48 : Int32) + x1)).toNatClampNeg) (((I 21) ((((48 : Int32) + x1)).toNatClampNeg)) - x2))) (us' := [(16, .inr (.inr (.inl (I 16)))), (17, .inr (.inr (.inl (I 17)))), (21, .inr (.inr (.inl (upd (upd (I 21) ((((48 : Int32) + x1)).toNatClampNeg) (((I 21) ((((48 : Int32) + x1)).toNatClampNeg)) - x2)) ((((53 : Int32) + x1)).toNatClampNeg) (((upd (I 21) ((((48 : Int32) + x1)).toNatClampNeg) (((I 21) ((((48 : Int32) + x1)).toNatClampNeg)) - x2)) ((((53 : Int32) + x1)).toNatClampNeg)) + x2))))), (23, .inr (.inr (.inl (I 23)))), (24, .inr (.inr (.inl (I 24))))]) C dX11_goes_216 (rfl : 216 + 1 = 217) rfl rfl hi216 rfl ds_X11_goes rfl rfl rfl ?_
            refine r_aload_n C dX11_goes_217 (rfl : 217 + 1 = 218) rfl ?_
            refine r_getR (q := 21) C dX11_goes_218 (rfl : 218 + 3 = 221) fl_X11_77 rfl rfl ?_
            refine r_bipush (v := (72 : Int32)) C dX11_goes_221 (rfl : 221 + 2 = 223) rfl ?_
            refine r_dup2 C dX11_goes_223 (rfl : 223 + 1 = 224) rfl rfl ?_
            refine a_i (j := 72) (f := (upd (upd (I 21) ((((48 : Int32) + x1)).toNatClampNeg) (((I 21) ((((48 : Int32) + x1)).toNatClampNeg)) - x2)) ((((53 : Int32) + x1)).toNatClampNeg) (((upd (I 21) ((((48 : Int32) + x1)).toNatClampNeg) (((I 21) ((((48 : Int32) + x1)).toNatClampNeg)) - x2)) ((((53 : Int32) + x1)).toNatClampNeg)) + x2))) C dX11_goes_224 (rfl : 224 + 1 = 225) rfl rfl (show ¬ ((72 : Int32) < 0 ∨ 77 ≤ ((72 : Int32)).toNatClampNeg) by decide) rfl ?_
            refine r_iload_n C dX11_goes_225 (rfl : 225 + 1 = 226) rfl ?_
            refine r_aload_n C dX11_goes_226 (rfl : 226 + 1 = 227) rfl ?_
            refine r_getR (q := 9) C dX11_goes_227 (rfl : 227 + 3 = 230) fl_X11_41 rfl rfl ?_
            refine r_iload_n C dX11_goes_230 (rfl : 230 + 1 = 231) rfl ?_
            obtain ⟨hi231, h⟩ := k_i_of h
            refine a_i (j := (x1).toNatClampNeg) (f := a9) C dX11_goes_231 (rfl : 231 + 1 = 232) rfl ea9 hi231 rfl ?_
            refine r_imul C dX11_goes_232 (rfl : 232 + 1 = 233) ?_
            refine r_iadd C dX11_goes_233 (rfl : 233 + 1 = 234) ?_
            refine s_i (j := 72) (f := (upd (upd (I 21) ((((48 : Int32) + x1)).toNatClampNeg) (((I 21) ((((48 : Int32) + x1)).toNatClampNeg)) - x2)) ((((53 : Int32) + x1)).toNatClampNeg) (((upd (I 21) ((((48 : Int32) + x1)).toNatClampNeg) (((I 21) ((((48 : Int32) + x1)).toNatClampNeg)) - x2)) ((((53 : Int32) + x1)).toNatClampNeg)) + x2))) (us' := [(16, .inr (.inr (.inl (I 16)))), (17, .inr (.inr (.inl (I 17)))), (21, .inr (.inr (.inl (upd (upd (upd (I 21) ((((48 : Int32) + x1)).toNatClampNeg) (((I 21) ((((48 : Int32) + x1)).toNatClampNeg)) - x2)) ((((53 : Int32) + x1)).toNatClampNeg) (((upd (I 21) ((((48 : Int32) + x1)).toNatClampNeg) (((I 21) ((((48 : Int32) + x1)).toNatClampNeg)) - x2)) ((((53 : Int32) + x1)).toNatClampNeg)) + x2)) 72 (((upd (upd (I 21) ((((48 : Int32) + x1)).toNatClampNeg) (((I 21) ((((48 : Int32) + x1)).toNatClampNeg)) - x2)) ((((53 : Int32) + x1)).toNatClampNeg) (((upd (I 21) ((((48 : Int32) + x1)).toNatClampNeg) (((I 21) ((((48 : Int32) + x1)).toNatClampNeg)) - x2)) ((((53 : Int32) + x1)).toNatClampNeg)) + x2)) 72) + (x2 * (a9 ((x1).toNatClampNeg)))))))), (23, .inr (.inr (.inl (I 23)))), (24, .inr (.inr (.inl (I 24))))]) C dX11_goes_234 (rfl : 234 + 1 = 235) rfl rfl (show ¬ ((72 : Int32) < 0 ∨ 77 ≤ ((72 : Int32)).toNatClampNeg) by decide) rfl ds_X11_goes rfl rfl rfl ?_
            refine r_iconst (v := (1 : Int32)) C dX11_goes_235 (rfl : 235 + 1 = 236) rfl ?_
            cases h
            exact r_zret C hr (Or.inr rfl) dX11_goes_236
          · have h := k_f c186 h
            refine r_iconst (v := (0 : Int32)) C dX11_goes_189 (rfl : 189 + 1 = 190) rfl ?_
            cases h
            exact r_zret C hr (Or.inl rfl) dX11_goes_190
        · have h := k_t c119 h
          refine r_aload_n C dX11_goes_122 (rfl : 122 + 1 = 123) rfl ?_
          refine r_getR (q := 21) C dX11_goes_123 (rfl : 123 + 3 = 126) fl_X11_77 rfl rfl ?_
          refine r_bipush (v := (74 : Int32)) C dX11_goes_126 (rfl : 126 + 2 = 128) rfl ?_
          refine a_i (j := 74) (f := (I 21)) C dX11_goes_128 (rfl : 128 + 1 = 129) rfl rfl (show ¬ ((74 : Int32) < 0 ∨ 77 ≤ ((74 : Int32)).toNatClampNeg) by decide) rfl ?_
          refine r_aload_n C dX11_goes_129 (rfl : 129 + 1 = 130) rfl ?_
          refine r_getI (v := c0_26) C dX11_goes_130 (rfl : 130 + 3 = 133) fl_X11_187 rfl rfl ec0_26 ?_
          refine r_icmp_eq (tgt := 150) C dX11_goes_133 (by decide) (rfl : 133 + 3 = 136) (fun c133 => ?_) (fun c133 => ?_)
          · have h := k_t c133 h
            refine r_iconst (v := (0 : Int32)) C dX11_goes_150 (rfl : 150 + 1 = 151) rfl ?_
            cases h
            exact r_zret C hr (Or.inl rfl) dX11_goes_151
          · have h := k_f c133 h
            refine r_aload_n C dX11_goes_136 (rfl : 136 + 1 = 137) rfl ?_
            refine r_getR (q := 21) C dX11_goes_137 (rfl : 137 + 3 = 140) fl_X11_77 rfl rfl ?_
            refine r_bipush (v := (70 : Int32)) C dX11_goes_140 (rfl : 140 + 2 = 142) rfl ?_
            refine a_i (j := 70) (f := (I 21)) C dX11_goes_142 (rfl : 142 + 1 = 143) rfl rfl (show ¬ ((70 : Int32) < 0 ∨ 77 ≤ ((70 : Int32)).toNatClampNeg) by decide) rfl ?_
            refine r_aload_n C dX11_goes_143 (rfl : 143 + 1 = 144) rfl ?_
            refine r_getI (v := c0_28) C dX11_goes_144 (rfl : 144 + 3 = 147) fl_X11_193 rfl rfl ec0_28 ?_
            refine r_icmp_ne (tgt := 152) C dX11_goes_147 (by decide) (rfl : 147 + 3 = 150) (fun c147 => ?_) (fun c147 => ?_)
            · have h := k_f c147 h
              refine r_aload_n C dX11_goes_152 (rfl : 152 + 1 = 153) rfl ?_
              refine r_getR (q := 21) C dX11_goes_153 (rfl : 153 + 3 = 156) fl_X11_77 rfl rfl ?_
              refine r_bipush (v := (74 : Int32)) C dX11_goes_156 (rfl : 156 + 2 = 158) rfl ?_
              refine r_aload_n C dX11_goes_158 (rfl : 158 + 1 = 159) rfl ?_
              refine r_getI (v := c0_26) C dX11_goes_159 (rfl : 159 + 3 = 162) fl_X11_187 rfl rfl ec0_26 ?_
              refine s_i (j := 74) (f := (I 21)) (us' := [(16, .inr (.inr (.inl (I 16)))), (17, .inr (.inr (.inl (I 17)))), (21, .inr (.inr (.inl (upd (I 21) 74 c0_26)))), (23, .inr (.inr (.inl (I 23)))), (24, .inr (.inr (.inl (I 24))))]) C dX11_goes_162 (rfl : 162 + 1 = 163) rfl rfl (show ¬ ((74 : Int32) < 0 ∨ 77 ≤ ((74 : Int32)).toNatClampNeg) by decide) rfl ds_X11_goes rfl rfl rfl ?_
              refine r_aload_n C dX11_goes_163 (rfl : 163 + 1 = 164) rfl ?_
              refine r_getR (q := 21) C dX11_goes_164 (rfl : 164 + 3 = 167) fl_X11_77 rfl rfl ?_
              refine r_bipush (v := (70 : Int32)) C dX11_goes_167 (rfl : 167 + 2 = 169) rfl ?_
              refine r_dup2 C dX11_goes_169 (rfl : 169 + 1 = 170) rfl rfl ?_
              refine a_i (j := 70) (f := (upd (I 21) 74 c0_26)) C dX11_goes_170 (rfl : 170 + 1 = 171) rfl rfl (show ¬ ((70 : Int32) < 0 ∨ 77 ≤ ((70 : Int32)).toNatClampNeg) by decide) rfl ?_
              refine r_iconst (v := (1 : Int32)) C dX11_goes_171 (rfl : 171 + 1 = 172) rfl ?_
              refine r_iadd C dX11_goes_172 (rfl : 172 + 1 = 173) ?_
              refine s_i (j := 70) (f := (upd (I 21) 74 c0_26)) (us' := [(16, .inr (.inr (.inl (I 16)))), (17, .inr (.inr (.inl (I 17)))), (21, .inr (.inr (.inl (upd (upd (I 21) 74 c0_26) 70 (((upd (I 21) 74 c0_26) 70) + (1 : Int32)))))), (23, .inr (.inr (.inl (I 23)))), (24, .inr (.inr (.inl (I 24))))]) C dX11_goes_173 (rfl : 173 + 1 = 174) rfl rfl (show ¬ ((70 : Int32) < 0 ∨ 77 ≤ ((70 : Int32)).toNatClampNeg) by decide) rfl ds_X11_goes rfl rfl rfl ?_
              refine r_iconst (v := (1 : Int32)) C dX11_goes_174 (rfl : 174 + 1 = 175) rfl ?_
              cases h
              exact r_zret C hr (Or.inr rfl) dX11_goes_175
            · have h := k_t c147 h
              refine r_iconst (v := (0 : Int32)) C dX11_goes_150 (rfl : 150 + 1 = 151) rfl ?_
              cases h
              exact r_zret C hr (Or.inl rfl) dX11_goes_151
      · have h := k_t c58 h
        refine r_aload_n C dX11_goes_61 (rfl : 61 + 1 = 62) rfl ?_
        refine r_getR (q := 21) C dX11_goes_62 (rfl : 62 + 3 = 65) fl_X11_77 rfl rfl ?_
        refine r_iload_n C dX11_goes_65 (rfl : 65 + 1 = 66) rfl ?_
        obtain ⟨hi66, h⟩ := k_i_of h
        refine a_i (j := (x1).toNatClampNeg) (f := (I 21)) C dX11_goes_66 (rfl : 66 + 1 = 67) rfl rfl hi66 rfl ?_
        refine r_iconst (v := (1 : Int32)) C dX11_goes_67 (rfl : 67 + 1 = 68) rfl ?_
        refine r_icmp_ne (tgt := 95) C dX11_goes_68 (by decide) (rfl : 68 + 3 = 71) (fun c68 => ?_) (fun c68 => ?_)
        · have h := k_f c68 h
          refine r_iconst (v := (0 : Int32)) C dX11_goes_95 (rfl : 95 + 1 = 96) rfl ?_
          cases h
          exact r_zret C hr (Or.inl rfl) dX11_goes_96
        · have h := k_t c68 h
          refine r_iload_n C dX11_goes_71 (rfl : 71 + 1 = 72) rfl ?_
          refine r_bipush (v := (8 : Int32)) C dX11_goes_72 (rfl : 72 + 2 = 74) rfl ?_
          refine r_idiv C dX11_goes_74 (rfl : 74 + 1 = 75) (by decide) ?_
          refine r_aload_n C dX11_goes_75 (rfl : 75 + 1 = 76) rfl ?_
          refine r_getR (q := 21) C dX11_goes_76 (rfl : 76 + 3 = 79) fl_X11_77 rfl rfl ?_
          refine r_bipush (v := (74 : Int32)) C dX11_goes_79 (rfl : 79 + 2 = 81) rfl ?_
          refine a_i (j := 74) (f := (I 21)) C dX11_goes_81 (rfl : 81 + 1 = 82) rfl rfl (show ¬ ((74 : Int32) < 0 ∨ 77 ≤ ((74 : Int32)).toNatClampNeg) by decide) rfl ?_
          refine r_icmp_ge (tgt := 95) C dX11_goes_82 (by decide) (rfl : 82 + 3 = 85) (fun c82 => ?_) (fun c82 => ?_)
          · have h := k_t c82 h
            refine r_iconst (v := (0 : Int32)) C dX11_goes_95 (rfl : 95 + 1 = 96) rfl ?_
            cases h
            exact r_zret C hr (Or.inl rfl) dX11_goes_96
          · have h := k_f c82 h
            refine r_aload_n C dX11_goes_85 (rfl : 85 + 1 = 86) rfl ?_
            refine r_getR (q := 21) C dX11_goes_86 (rfl : 86 + 3 = 89) fl_X11_77 rfl rfl ?_
            refine r_bipush (v := (71 : Int32)) C dX11_goes_89 (rfl : 89 + 2 = 91) rfl ?_
            refine a_i (j := 71) (f := (I 21)) C dX11_goes_91 (rfl : 91 + 1 = 92) rfl rfl (show ¬ ((71 : Int32) < 0 ∨ 77 ≤ ((71 : Int32)).toNatClampNeg) by decide) rfl ?_
            refine r_if_ne (tgt := 97) C dX11_goes_92 (by decide) (rfl : 92 + 3 = 95) (fun c92 => ?_) (fun c92 => ?_)
            · have h := k_f c92 h
              refine r_aload_n C dX11_goes_97 (rfl : 97 + 1 = 98) rfl ?_
              refine r_getR (q := 21) C dX11_goes_98 (rfl : 98 + 3 = 101) fl_X11_77 rfl rfl ?_
              refine r_iload_n C dX11_goes_101 (rfl : 101 + 1 = 102) rfl ?_
              refine r_iconst (v := (2 : Int32)) C dX11_goes_102 (rfl : 102 + 1 = 103) rfl ?_
              obtain ⟨hi103, h⟩ := k_i_of h
              refine s_i (j := (x1).toNatClampNeg) (f := (I 21)) (us' := [(16, .inr (.inr (.inl (I 16)))), (17, .inr (.inr (.inl (I 17)))), (21, .inr (.inr (.inl (upd (I 21) ((x1).toNatClampNeg) (2 : Int32))))), (23, .inr (.inr (.inl (I 23)))), (24, .inr (.inr (.inl (I 24))))]) C dX11_goes_103 (rfl : 103 + 1 = 104) rfl rfl hi103 rfl ds_X11_goes rfl rfl rfl ?_
              refine r_aload_n C dX11_goes_104 (rfl : 104 + 1 = 105) rfl ?_
              refine r_getR (q := 21) C dX11_goes_105 (rfl : 105 + 3 = 108) fl_X11_77 rfl rfl ?_
              refine r_bipush (v := (71 : Int32)) C dX11_goes_108 (rfl : 108 + 2 = 110) rfl ?_
              refine r_dup2 C dX11_goes_110 (rfl : 110 + 1 = 111) rfl rfl ?_
              refine a_i (j := 71) (f := (upd (I 21) ((x1).toNatClampNeg) (2 : Int32))) C dX11_goes_111 (rfl : 111 + 1 = 112) rfl rfl (show ¬ ((71 : Int32) < 0 ∨ 77 ≤ ((71 : Int32)).toNatClampNeg) by decide) rfl ?_
              refine r_iconst (v := (1 : Int32)) C dX11_goes_112 (rfl : 112 + 1 = 113) rfl ?_
              refine r_isub C dX11_goes_113 (rfl : 113 + 1 = 114) ?_
              refine s_i (j := 71) (f := (upd (I 21) ((x1).toNatClampNeg) (2 : Int32))) (us' := [(16, .inr (.inr (.inl (I 16)))), (17, .inr (.inr (.inl (I 17)))), (21, .inr (.inr (.inl (upd (upd (I 21) ((x1).toNatClampNeg) (2 : Int32)) 71 (((upd (I 21) ((x1).toNatClampNeg) (2 : Int32)) 71) - (1 : Int32)))))), (23, .inr (.inr (.inl (I 23)))), (24, .inr (.inr (.inl (I 24))))]) C dX11_goes_114 (rfl : 114 + 1 = 115) rfl rfl (show ¬ ((71 : Int32) < 0 ∨ 77 ≤ ((71 : Int32)).toNatClampNeg) by decide) rfl ds_X11_goes rfl rfl rfl ?_
              refine r_iconst (v := (1 : Int32)) C dX11_goes_115 (rfl : 115 + 1 = 116) rfl ?_
              cases h
              exact r_zret C hr (Or.inr rfl) dX11_goes_116
            · have h := k_t c92 h
              refine r_iconst (v := (0 : Int32)) C dX11_goes_95 (rfl : 95 + 1 = 96) rfl ?_
              cases h
              exact r_zret C hr (Or.inl rfl) dX11_goes_96
    · have h := k_t c11 h
      refine r_aload_n C dX11_goes_14 (rfl : 14 + 1 = 15) rfl ?_
      refine r_iload_n C dX11_goes_15 (rfl : 15 + 1 = 16) rfl ?_
      obtain ⟨r16, q16, h⟩ := k_b_of h
      refine d_V (As := [.int x1]) (st := []) (st' := [.int r16]) (h' := k_ap [(16, .inr (.inr (.inl (I 16)))), (17, .inr (.inr (.inl (I 17)))), (21, .inr (.inr (.inl (I 21)))), (23, .inr (.inr (.inl (I 23)))), (24, .inr (.inr (.inl (I 24))))] (shM, I, L, Rf)) C hR ⟨Nat.zero_le _, Nat.zero_le _⟩ mv_X11_whyNot lk_X11_409 dX11_goes_16 (rfl : 16 + 3 = 19) rfl rfl rfl rfl (c_X11_whyNot X.l u (k_ap [(16, .inr (.inr (.inl (I 16)))), (17, .inr (.inr (.inl (I 17)))), (21, .inr (.inr (.inl (I 21)))), (23, .inr (.inr (.inl (I 23)))), (24, .inr (.inr (.inl (I 24))))] (shM, I, L, Rf)) rfl ec0_25 ec0_26 ec0_27 rfl q16) rfl rfl rfl rfl rfl ?_
      refine r_if_ne (tgt := 36) C dX11_goes_19 (by decide) (rfl : 19 + 3 = 22) (fun c19 => ?_) (fun c19 => ?_)
      · have h := k_f c19 h
        refine r_iconst (v := (0 : Int32)) C dX11_goes_36 (rfl : 36 + 1 = 37) rfl ?_
        cases h
        exact r_zret C hr (Or.inl rfl) dX11_goes_37
      · have h := k_t c19 h
        refine r_aload_n C dX11_goes_22 (rfl : 22 + 1 = 23) rfl ?_
        refine r_getR (q := 21) C dX11_goes_23 (rfl : 23 + 3 = 26) fl_X11_77 rfl rfl ?_
        refine r_bipush (v := (70 : Int32)) C dX11_goes_26 (rfl : 26 + 2 = 28) rfl ?_
        refine a_i (j := 70) (f := (I 21)) C dX11_goes_28 (rfl : 28 + 1 = 29) rfl rfl (show ¬ ((70 : Int32) < 0 ∨ 77 ≤ ((70 : Int32)).toNatClampNeg) by decide) rfl ?_
        refine r_aload_n C dX11_goes_29 (rfl : 29 + 1 = 30) rfl ?_
        refine r_getI (v := c0_28) C dX11_goes_30 (rfl : 30 + 3 = 33) fl_X11_193 rfl rfl ec0_28 ?_
        refine r_icmp_ne (tgt := 38) C dX11_goes_33 (by decide) (rfl : 33 + 3 = 36) (fun c33 => ?_) (fun c33 => ?_)
        · have h := k_f c33 h
          refine r_aload_n C dX11_goes_38 (rfl : 38 + 1 = 39) rfl ?_
          refine r_getR (q := 21) C dX11_goes_39 (rfl : 39 + 3 = 42) fl_X11_77 rfl rfl ?_
          refine r_bipush (v := (70 : Int32)) C dX11_goes_42 (rfl : 42 + 2 = 44) rfl ?_
          refine r_dup2 C dX11_goes_44 (rfl : 44 + 1 = 45) rfl rfl ?_
          refine a_i (j := 70) (f := (I 21)) C dX11_goes_45 (rfl : 45 + 1 = 46) rfl rfl (show ¬ ((70 : Int32) < 0 ∨ 77 ≤ ((70 : Int32)).toNatClampNeg) by decide) rfl ?_
          refine r_iconst (v := (1 : Int32)) C dX11_goes_46 (rfl : 46 + 1 = 47) rfl ?_
          refine r_iadd C dX11_goes_47 (rfl : 47 + 1 = 48) ?_
          refine s_i (j := 70) (f := (I 21)) (us' := [(16, .inr (.inr (.inl (I 16)))), (17, .inr (.inr (.inl (I 17)))), (21, .inr (.inr (.inl (upd (I 21) 70 (((I 21) 70) + (1 : Int32)))))), (23, .inr (.inr (.inl (I 23)))), (24, .inr (.inr (.inl (I 24))))]) C dX11_goes_48 (rfl : 48 + 1 = 49) rfl rfl (show ¬ ((70 : Int32) < 0 ∨ 77 ≤ ((70 : Int32)).toNatClampNeg) by decide) rfl ds_X11_goes rfl rfl rfl ?_
          refine r_aload_n C dX11_goes_49 (rfl : 49 + 1 = 50) rfl ?_
          refine r_iload_n C dX11_goes_50 (rfl : 50 + 1 = 51) rfl ?_
          obtain ⟨r51, q51, h⟩ := k_b_of h
          refine d_V (As := [.int x1]) (st := []) (st' := []) (h' := k_ap [(16, .inr (.inr (.inl r51.1))), (17, .inr (.inr (.inl r51.2.1))), (21, .inr (.inr (.inl r51.2.2.1))), (23, .inr (.inr (.inl r51.2.2.2))), (24, .inr (.inr (.inl (I 24))))] (shM, I, L, Rf)) C hR ⟨Nat.zero_le _, Nat.zero_le _⟩ mv_X11_digs lk_X11_412 dX11_goes_51 (rfl : 51 + 3 = 54) rfl rfl rfl rfl (c_X11_digs X.l u (k_ap [(16, .inr (.inr (.inl (I 16)))), (17, .inr (.inr (.inl (I 17)))), (21, .inr (.inr (.inl (upd (I 21) 70 (((I 21) 70) + (1 : Int32)))))), (23, .inr (.inr (.inl (I 23)))), (24, .inr (.inr (.inl (I 24))))] (shM, I, L, Rf)) rfl ec0_25 ec0_26 ea7 ea8 ea13 ea14 ea15 rfl rfl rfl rfl q51) rfl rfl rfl (k_jn (us' := [(16, .inr (.inr (.inl r51.1))), (17, .inr (.inr (.inl r51.2.1))), (21, .inr (.inr (.inl r51.2.2.1))), (23, .inr (.inr (.inl r51.2.2.2))), (24, .inr (.inr (.inl (I 24))))]) ds_X11_goes rfl rfl rfl) rfl ?_
          refine r_iconst (v := (1 : Int32)) C dX11_goes_54 (rfl : 54 + 1 = 55) rfl ?_
          cases h
          exact r_zret C hr (Or.inr rfl) dX11_goes_55
        · have h := k_t c33 h
          refine r_iconst (v := (0 : Int32)) C dX11_goes_36 (rfl : 36 + 1 = 37) rfl ?_
          cases h
          exact r_zret C hr (Or.inl rfl) dX11_goes_37
  · have h := k_t c2 h
    refine r_aload_n C dX11_goes_5 (rfl : 5 + 1 = 6) rfl ?_
    obtain ⟨r6, q6, h⟩ := k_b_of h
    refine d_V (As := []) (st := []) (st' := [.int r6.1]) (h' := k_ap [(16, .inr (.inr (.inl (I 16)))), (17, .inr (.inr (.inl (I 17)))), (21, .inr (.inr (.inl r6.2.1))), (23, .inr (.inr (.inl (I 23)))), (24, .inr (.inr (.inl r6.2.2)))] (shM, I, L, Rf)) C hR ⟨Nat.zero_le _, Nat.zero_le _⟩ mv_X11_next lk_X11_406 dX11_goes_6 (rfl : 6 + 3 = 9) rfl rfl rfl rfl (c_X11_next X.l u (k_ap [(16, .inr (.inr (.inl (I 16)))), (17, .inr (.inr (.inl (I 17)))), (21, .inr (.inr (.inl (I 21)))), (23, .inr (.inr (.inl (I 23)))), (24, .inr (.inr (.inl (I 24))))] (shM, I, L, Rf)) rfl ec0_30 ea9 ea10 rfl rfl q6) rfl rfl rfl (k_jn (us' := [(16, .inr (.inr (.inl (I 16)))), (17, .inr (.inr (.inl (I 17)))), (21, .inr (.inr (.inl r6.2.1))), (23, .inr (.inr (.inl (I 23)))), (24, .inr (.inr (.inl r6.2.2)))]) ds_X11_goes rfl rfl rfl) rfl ?_
    obtain ⟨hz, h⟩ := k_z_of h
    cases h
    exact r_zret C hr hz dX11_goes_9
/-! LullabyPitModel.copies([I[II)V -/
theorem ds_X11_copies_20_21 : k_ds [(21, 2, 0)] = true := by decide
def bX11_copies_20_21_3 (u : Nat) (a20 : (Nat → Int32)) : Nat → (Nat → Int32) → Int32 → Int32 → Option ((Nat → Int32))
  | 0, _, _, _ => none
  | n + 1, a21, v3, v4 => (if v3 ≤ v4 then some a21 else k_i 77 v4 (k_i 77 v4 ((bX11_copies_20_21_3 u a20 n (upd a21 ((v4).toNatClampNeg) (a20 ((v4).toNatClampNeg))) v3 (v4 + (1 : Int32))))))
set_option maxHeartbeats 400000 in
set_option maxRecDepth 100000 in
theorem sX11_copies_20_21_3 (u : Nat) {X : k_X} {ad : Nat → Nat} (C : k_C X cX11_copies RX11 5 ad) (hr : X.meth.sig.returnType = none) (hR : X.R.frames = 0 ∧ X.R.locals = 0) {I : Nat → Nat → Int32} {L : Nat → Nat → Int64} {Rf : Nat → Nat → Option Nat} {a20 : (Nat → Int32)} (ea20 : I 20 = a20) {out : (Nat → Int32)} : ∀ (n : Nat) (a21 : (Nat → Int32)) (v3 : Int32) (v4 : Int32), bX11_copies_20_21_3 u a20 n a21 v3 v4 = some out → k_W X 5 0 0 (k_Q X ad none (k_ap [(21, .inr (.inr (.inl out)))] (shM, I, L, Rf))) ad (k_ap [(21, .inr (.inr (.inl a21)))] (shM, I, L, Rf)) 3 [none, some (.ref 20), some (.ref 21), some (.int v3), some (.int v4)] [] := by
  intro n
  induction n with
  | zero => intro a21 v3 v4 h; cases h
  | succ n ih =>
    intro a21 v3 v4 h
    refine r_iload C dX11_copies_3 (rfl : 3 + 2 = 5) rfl ?_
    refine r_iload_n C dX11_copies_5 (rfl : 5 + 1 = 6) rfl ?_
    refine r_icmp_ge (tgt := 23) C dX11_copies_6 (by decide) (rfl : 6 + 3 = 9) (fun c6 => ?_) (fun c6 => ?_)
    · have h := k_t c6 h
      cases h
      exact r_vret C hr dX11_copies_23
    · have h := k_f c6 h
      refine r_aload_n C dX11_copies_9 (rfl : 9 + 1 = 10) rfl ?_
      refine r_iload C dX11_copies_10 (rfl : 10 + 2 = 12) rfl ?_
      refine r_aload_n C dX11_copies_12 (rfl : 12 + 1 = 13) rfl ?_
      refine r_iload C dX11_copies_13 (rfl : 13 + 2 = 15) rfl ?_
      obtain ⟨hi15, h⟩ := k_i_of h
      refine a_i (j := (v4).toNatClampNeg) (f := a20) C dX11_copies_15 (rfl : 15 + 1 = 16) rfl ea20 hi15 rfl ?_
      obtain ⟨hi16, h⟩ := k_i_of h
      refine s_i (j := (v4).toNatClampNeg) (f := a21) (us' := [(21, .inr (.inr (.inl (upd a21 ((v4).toNatClampNeg) (a20 ((v4).toNatClampNeg))))))]) C dX11_copies_16 (rfl : 16 + 1 = 17) rfl rfl hi16 rfl ds_X11_copies_20_21 rfl rfl rfl ?_
      refine r_iinc (v := (v4 + (1 : Int32))) C dX11_copies_17 (rfl : 17 + 3 = 20) rfl rfl (by decide) ?_
      show k_W _ _ _ _ _ _ _ _ [none, some (.ref 20), some (.ref 21), some (.int v3), some (.int (v4 + (1 : Int32)))] _
      refine r_goto (tgt := 3) C dX11_copies_20 (by decide) ?_
      refine k_mask [false, true, true, true, true] ?_
      exact ih (upd a21 ((v4).toNatClampNeg) (a20 ((v4).toNatClampNeg))) v3 (v4 + (1 : Int32)) h
def f_X11_copies_20_21 (u : Nat) (a20 : (Nat → Int32)) (a21 : (Nat → Int32)) (x2 : Int32) : Option ((Nat → Int32)) := (bX11_copies_20_21_3 u a20 u a21 x2 (0 : Int32))
set_option maxHeartbeats 400000 in
set_option maxRecDepth 100000 in
theorem c_X11_copies_20_21 (l : Launch) (u : Nat) (h : k_H) (hsh : h.1 = shM) {a20 : (Nat → Int32)} (ea20 : h.2.1 20 = a20) {a21 : (Nat → Int32)} (ea21 : h.2.1 21 = a21) {x2 : Int32} {out : (Nat → Int32)} (hf : f_X11_copies_20_21 u a20 a21 x2 = some out) : k_CT l yX11_copies cX11_copies 5 none 0 0 [.ref 0, .ref 20, .ref 21, .int x2] h none [(21, .inr (.inr (.inl out)))] := by
  obtain ⟨sh, I, L, Rf⟩ := h
  obtain rfl : sh = shM := hsh
  obtain rfl := ea21
  refine k_ofW (by decide) (Nat.le_of_ble_eq_true rfl) ?_
  intro X ad hl hR0 hr C
  have hR : X.R.frames = 0 ∧ X.R.locals = 0 := by rw [hR0]; exact ⟨rfl, rfl⟩
  have h := hf
  unfold f_X11_copies_20_21 at h
  refine k_start (us := [(21, .inr (.inr (.inl (I 21))))]) (k_ap_A k_ap_0) ?_
  show k_W X 5 0 0 _ ad (k_ap [(21, .inr (.inr (.inl (I 21))))] (shM, I, L, Rf)) 0 [some (.ref 0), some (.ref 20), some (.ref 21), some (.int x2), none] []
  refine r_iconst (v := (0 : Int32)) C dX11_copies_0 (rfl : 0 + 1 = 1) rfl ?_
  refine r_istore C dX11_copies_1 (rfl : 1 + 2 = 3) (by decide) (Nat.le_of_ble_eq_true rfl) ?_
  show k_W _ _ _ _ _ _ _ _ [some (.ref 0), some (.ref 20), some (.ref 21), some (.int x2), some (.int (0 : Int32))] _
  refine k_mask [false, true, true, true, true] ?_
  exact sX11_copies_20_21_3 u C hr hR ea20 u (I 21) x2 (0 : Int32) h
/-! LullabyPitModel.take()V -/
theorem ds_X11_take : k_ds [(21, 2, 0)] = true := by decide
def f_X11_take (u : Nat) (a20 : (Nat → Int32)) (a21 : (Nat → Int32)) : Option ((Nat → Int32)) := k_b (f_X11_copies_20_21 u a20 a21 (77 : Int32)) (fun r11 => some r11)
set_option maxHeartbeats 400000 in
set_option maxRecDepth 100000 in
theorem c_X11_take (l : Launch) (u : Nat) (h : k_H) (hsh : h.1 = shM) {a20 : (Nat → Int32)} (ea20 : h.2.1 20 = a20) {a21 : (Nat → Int32)} (ea21 : h.2.1 21 = a21) {out : (Nat → Int32)} (hf : f_X11_take u a20 a21 = some out) : k_CT l yX11_take cX11_take 1 none 1 24 [.ref 0] h none [(21, .inr (.inr (.inl out)))] := by
  obtain ⟨sh, I, L, Rf⟩ := h
  obtain rfl : sh = shM := hsh
  obtain rfl := ea21
  refine k_ofW (by decide) (Nat.le_of_ble_eq_true rfl) ?_
  intro X ad hl hR0 hr C
  have hR : X.R.frames = 1 ∧ X.R.locals = 24 := by rw [hR0]; exact ⟨rfl, rfl⟩
  have h := hf
  unfold f_X11_take at h
  refine k_start (us := [(21, .inr (.inr (.inl (I 21))))]) (k_ap_A k_ap_0) ?_
  show k_W X 1 0 0 _ ad (k_ap [(21, .inr (.inr (.inl (I 21))))] (shM, I, L, Rf)) 0 [some (.ref 0)] []
  refine r_aload_n C dX11_take_0 (rfl : 0 + 1 = 1) rfl ?_
  refine r_aload_n C dX11_take_1 (rfl : 1 + 1 = 2) rfl ?_
  refine r_getR (q := 20) C dX11_take_2 (rfl : 2 + 3 = 5) fl_X11_74 rfl rfl ?_
  refine r_aload_n C dX11_take_5 (rfl : 5 + 1 = 6) rfl ?_
  refine r_getR (q := 21) C dX11_take_6 (rfl : 6 + 3 = 9) fl_X11_77 rfl rfl ?_
  refine r_bipush (v := (77 : Int32)) C dX11_take_9 (rfl : 9 + 2 = 11) rfl ?_
  obtain ⟨r11, q11, h⟩ := k_b_of h
  refine d_V (As := [.ref 20, .ref 21, .int (77 : Int32)]) (st := []) (st' := []) (h' := k_ap [(21, .inr (.inr (.inl r11)))] (shM, I, L, Rf)) C hR ⟨Nat.zero_le _, Nat.zero_le _⟩ mv_X11_copies lk_X11_202 dX11_take_11 (rfl : 11 + 3 = 14) rfl rfl rfl rfl (c_X11_copies_20_21 X.l u (k_ap [(21, .inr (.inr (.inl (I 21))))] (shM, I, L, Rf)) rfl ea20 rfl q11) rfl rfl rfl (k_jn (us' := [(21, .inr (.inr (.inl r11)))]) ds_X11_take rfl rfl rfl) rfl ?_
  cases h
  exact r_vret C hr dX11_take_14
/-! LullabyPitModel.copies([I[II)V -/
theorem ds_X11_copies_25_26 : k_ds [(26, 2, 0)] = true := by decide
def bX11_copies_25_26_3 (u : Nat) (a25 : (Nat → Int32)) : Nat → (Nat → Int32) → Int32 → Int32 → Option ((Nat → Int32))
  | 0, _, _, _ => none
  | n + 1, a26, v3, v4 => (if v3 ≤ v4 then some a26 else k_i 16 v4 (k_i 16 v4 ((bX11_copies_25_26_3 u a25 n (upd a26 ((v4).toNatClampNeg) (a25 ((v4).toNatClampNeg))) v3 (v4 + (1 : Int32))))))
set_option maxHeartbeats 400000 in
set_option maxRecDepth 100000 in
theorem sX11_copies_25_26_3 (u : Nat) {X : k_X} {ad : Nat → Nat} (C : k_C X cX11_copies RX11 5 ad) (hr : X.meth.sig.returnType = none) (hR : X.R.frames = 0 ∧ X.R.locals = 0) {I : Nat → Nat → Int32} {L : Nat → Nat → Int64} {Rf : Nat → Nat → Option Nat} {a25 : (Nat → Int32)} (ea25 : I 25 = a25) {out : (Nat → Int32)} : ∀ (n : Nat) (a26 : (Nat → Int32)) (v3 : Int32) (v4 : Int32), bX11_copies_25_26_3 u a25 n a26 v3 v4 = some out → k_W X 5 0 0 (k_Q X ad none (k_ap [(26, .inr (.inr (.inl out)))] (shM, I, L, Rf))) ad (k_ap [(26, .inr (.inr (.inl a26)))] (shM, I, L, Rf)) 3 [none, some (.ref 25), some (.ref 26), some (.int v3), some (.int v4)] [] := by
  intro n
  induction n with
  | zero => intro a26 v3 v4 h; cases h
  | succ n ih =>
    intro a26 v3 v4 h
    refine r_iload C dX11_copies_3 (rfl : 3 + 2 = 5) rfl ?_
    refine r_iload_n C dX11_copies_5 (rfl : 5 + 1 = 6) rfl ?_
    refine r_icmp_ge (tgt := 23) C dX11_copies_6 (by decide) (rfl : 6 + 3 = 9) (fun c6 => ?_) (fun c6 => ?_)
    · have h := k_t c6 h
      cases h
      exact r_vret C hr dX11_copies_23
    · have h := k_f c6 h
      refine r_aload_n C dX11_copies_9 (rfl : 9 + 1 = 10) rfl ?_
      refine r_iload C dX11_copies_10 (rfl : 10 + 2 = 12) rfl ?_
      refine r_aload_n C dX11_copies_12 (rfl : 12 + 1 = 13) rfl ?_
      refine r_iload C dX11_copies_13 (rfl : 13 + 2 = 15) rfl ?_
      obtain ⟨hi15, h⟩ := k_i_of h
      refine a_i (j := (v4).toNatClampNeg) (f := a25) C dX11_copies_15 (rfl : 15 + 1 = 16) rfl ea25 hi15 rfl ?_
      obtain ⟨hi16, h⟩ := k_i_of h
      refine s_i (j := (v4).toNatClampNeg) (f := a26) (us' := [(26, .inr (.inr (.inl (upd a26 ((v4).toNatClampNeg) (a25 ((v4).toNatClampNeg))))))]) C dX11_copies_16 (rfl : 16 + 1 = 17) rfl rfl hi16 rfl ds_X11_copies_25_26 rfl rfl rfl ?_
      refine r_iinc (v := (v4 + (1 : Int32))) C dX11_copies_17 (rfl : 17 + 3 = 20) rfl rfl (by decide) ?_
      show k_W _ _ _ _ _ _ _ _ [none, some (.ref 25), some (.ref 26), some (.int v3), some (.int (v4 + (1 : Int32)))] _
      refine r_goto (tgt := 3) C dX11_copies_20 (by decide) ?_
      refine k_mask [false, true, true, true, true] ?_
      exact ih (upd a26 ((v4).toNatClampNeg) (a25 ((v4).toNatClampNeg))) v3 (v4 + (1 : Int32)) h
def f_X11_copies_25_26 (u : Nat) (a25 : (Nat → Int32)) (a26 : (Nat → Int32)) (x2 : Int32) : Option ((Nat → Int32)) := (bX11_copies_25_26_3 u a25 u a26 x2 (0 : Int32))
set_option maxHeartbeats 400000 in
set_option maxRecDepth 100000 in
theorem c_X11_copies_25_26 (l : Launch) (u : Nat) (h : k_H) (hsh : h.1 = shM) {a25 : (Nat → Int32)} (ea25 : h.2.1 25 = a25) {a26 : (Nat → Int32)} (ea26 : h.2.1 26 = a26) {x2 : Int32} {out : (Nat → Int32)} (hf : f_X11_copies_25_26 u a25 a26 x2 = some out) : k_CT l yX11_copies cX11_copies 5 none 0 0 [.ref 0, .ref 25, .ref 26, .int x2] h none [(26, .inr (.inr (.inl out)))] := by
  obtain ⟨sh, I, L, Rf⟩ := h
  obtain rfl : sh = shM := hsh
  obtain rfl := ea26
  refine k_ofW (by decide) (Nat.le_of_ble_eq_true rfl) ?_
  intro X ad hl hR0 hr C
  have hR : X.R.frames = 0 ∧ X.R.locals = 0 := by rw [hR0]; exact ⟨rfl, rfl⟩
  have h := hf
  unfold f_X11_copies_25_26 at h
  refine k_start (us := [(26, .inr (.inr (.inl (I 26))))]) (k_ap_A k_ap_0) ?_
  show k_W X 5 0 0 _ ad (k_ap [(26, .inr (.inr (.inl (I 26))))] (shM, I, L, Rf)) 0 [some (.ref 0), some (.ref 25), some (.ref 26), some (.int x2), none] []
  refine r_iconst (v := (0 : Int32)) C dX11_copies_0 (rfl : 0 + 1 = 1) rfl ?_
  refine r_istore C dX11_copies_1 (rfl : 1 + 2 = 3) (by decide) (Nat.le_of_ble_eq_true rfl) ?_
  show k_W _ _ _ _ _ _ _ _ [some (.ref 0), some (.ref 25), some (.ref 26), some (.int x2), some (.int (0 : Int32))] _
  refine k_mask [false, true, true, true, true] ?_
  exact sX11_copies_25_26_3 u C hr hR ea25 u (I 26) x2 (0 : Int32) h
