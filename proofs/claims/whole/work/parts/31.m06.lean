/-! LullabyPitModel.isClause(I)Z -/
theorem ds_X11_isClause : k_ds [] = true := by decide +kernel
set_option maxHeartbeats 400000 in
set_option maxRecDepth 100000 in
theorem sX11_isClause_0 (u : Nat) {X : k_X} {ad : Nat → Nat} (C : k_C X cX11_isClause RX11 1 ad) (hr : X.meth.sig.returnType = (some .boolean)) (hR : X.R.frames = 5 ∧ X.R.locals = 107) {I : Nat → Nat → Int32} {L : Nat → Nat → Int64} {Rf : Nat → Nat → Option Nat} {out : Int32} : ∀ (v0 : Int32), bX11_isClause_0 u v0 = some out → k_W X 1 0 0 (k_Q X ad (some (.int out)) (k_ap [] (shM, I, L, Rf))) ad (k_ap [] (shM, I, L, Rf)) 0 [some (.int v0)] [] := by
  intro v0 h
  unfold bX11_isClause_0 at h
  refine r_iload_n C dX11_isClause_0 (rfl : 0 + 1 = 1) rfl ?_
  refine r_ldcS (i := 7) C rfl dX11_isClause_1 (rfl : 1 + 2 = 3) ?_
  obtain ⟨r3, q3, h⟩ := k_b_of h
  refine d_S (As := [.ref (1000000 + 7)]) (st := [.int v0]) (st' := [.int r3, .int v0]) (h' := k_ap [] (shM, I, L, Rf)) C hR ⟨Nat.zero_le _, Nat.zero_le _⟩ ms_X11_of lk_X11_227 dX11_isClause_3 (rfl : 3 + 3 = 6) rfl rfl (c_X11_of X.l u 7 (by decide) (k_ap [] (shM, I, L, Rf)) rfl  q3) rfl rfl rfl rfl rfl ?_
  refine r_icmp_eq (tgt := 72) C dX11_isClause_6 (by decide) (rfl : 6 + 3 = 9) (fun c6 => ?_) (fun c6 => ?_)
  · have h := k_t c6 h
    refine r_iconst (v := (1 : Int32)) C dX11_isClause_72 (rfl : 72 + 1 = 73) rfl ?_
    refine r_goto (tgt := 77) C dX11_isClause_73 (by decide) ?_
    cases h
    exact r_zret C hr (Or.inr rfl) dX11_isClause_77
  · have h := k_f c6 h
    refine r_iload_n C dX11_isClause_9 (rfl : 9 + 1 = 10) rfl ?_
    refine r_ldcS (i := 8) C rfl dX11_isClause_10 (rfl : 10 + 2 = 12) ?_
    obtain ⟨r12, q12, h⟩ := k_b_of h
    refine d_S (As := [.ref (1000000 + 8)]) (st := [.int v0]) (st' := [.int r12, .int v0]) (h' := k_ap [] (shM, I, L, Rf)) C hR ⟨Nat.zero_le _, Nat.zero_le _⟩ ms_X11_of lk_X11_227 dX11_isClause_12 (rfl : 12 + 3 = 15) rfl rfl (c_X11_of X.l u 8 (by decide) (k_ap [] (shM, I, L, Rf)) rfl  q12) rfl rfl rfl rfl rfl ?_
    refine r_icmp_eq (tgt := 72) C dX11_isClause_15 (by decide) (rfl : 15 + 3 = 18) (fun c15 => ?_) (fun c15 => ?_)
    · have h := k_t c15 h
      refine r_iconst (v := (1 : Int32)) C dX11_isClause_72 (rfl : 72 + 1 = 73) rfl ?_
      refine r_goto (tgt := 77) C dX11_isClause_73 (by decide) ?_
      cases h
      exact r_zret C hr (Or.inr rfl) dX11_isClause_77
    · have h := k_f c15 h
      refine r_iload_n C dX11_isClause_18 (rfl : 18 + 1 = 19) rfl ?_
      refine r_ldcS (i := 9) C rfl dX11_isClause_19 (rfl : 19 + 2 = 21) ?_
      obtain ⟨r21, q21, h⟩ := k_b_of h
      refine d_S (As := [.ref (1000000 + 9)]) (st := [.int v0]) (st' := [.int r21, .int v0]) (h' := k_ap [] (shM, I, L, Rf)) C hR ⟨Nat.zero_le _, Nat.zero_le _⟩ ms_X11_of lk_X11_227 dX11_isClause_21 (rfl : 21 + 3 = 24) rfl rfl (c_X11_of X.l u 9 (by decide) (k_ap [] (shM, I, L, Rf)) rfl  q21) rfl rfl rfl rfl rfl ?_
      refine r_icmp_eq (tgt := 72) C dX11_isClause_24 (by decide) (rfl : 24 + 3 = 27) (fun c24 => ?_) (fun c24 => ?_)
      · have h := k_t c24 h
        refine r_iconst (v := (1 : Int32)) C dX11_isClause_72 (rfl : 72 + 1 = 73) rfl ?_
        refine r_goto (tgt := 77) C dX11_isClause_73 (by decide) ?_
        cases h
        exact r_zret C hr (Or.inr rfl) dX11_isClause_77
      · have h := k_f c24 h
        refine r_iload_n C dX11_isClause_27 (rfl : 27 + 1 = 28) rfl ?_
        refine r_ldcS (i := 10) C rfl dX11_isClause_28 (rfl : 28 + 2 = 30) ?_
        obtain ⟨r30, q30, h⟩ := k_b_of h
        refine d_S (As := [.ref (1000000 + 10)]) (st := [.int v0]) (st' := [.int r30, .int v0]) (h' := k_ap [] (shM, I, L, Rf)) C hR ⟨Nat.zero_le _, Nat.zero_le _⟩ ms_X11_of lk_X11_227 dX11_isClause_30 (rfl : 30 + 3 = 33) rfl rfl (c_X11_of X.l u 10 (by decide) (k_ap [] (shM, I, L, Rf)) rfl  q30) rfl rfl rfl rfl rfl ?_
        refine r_icmp_eq (tgt := 72) C dX11_isClause_33 (by decide) (rfl : 33 + 3 = 36) (fun c33 => ?_) (fun c33 => ?_)
        · have h := k_t c33 h
          refine r_iconst (v := (1 : Int32)) C dX11_isClause_72 (rfl : 72 + 1 = 73) rfl ?_
          refine r_goto (tgt := 77) C dX11_isClause_73 (by decide) ?_
          cases h
          exact r_zret C hr (Or.inr rfl) dX11_isClause_77
        · have h := k_f c33 h
          refine r_iload_n C dX11_isClause_36 (rfl : 36 + 1 = 37) rfl ?_
          refine r_ldcS (i := 11) C rfl dX11_isClause_37 (rfl : 37 + 2 = 39) ?_
          obtain ⟨r39, q39, h⟩ := k_b_of h
          refine d_S (As := [.ref (1000000 + 11)]) (st := [.int v0]) (st' := [.int r39, .int v0]) (h' := k_ap [] (shM, I, L, Rf)) C hR ⟨Nat.zero_le _, Nat.zero_le _⟩ ms_X11_of lk_X11_227 dX11_isClause_39 (rfl : 39 + 3 = 42) rfl rfl (c_X11_of X.l u 11 (by decide) (k_ap [] (shM, I, L, Rf)) rfl  q39) rfl rfl rfl rfl rfl ?_
          refine r_icmp_eq (tgt := 72) C dX11_isClause_42 (by decide) (rfl : 42 + 3 = 45) (fun c42 => ?_) (fun c42 => ?_)
          · have h := k_t c42 h
            refine r_iconst (v := (1 : Int32)) C dX11_isClause_72 (rfl : 72 + 1 = 73) rfl ?_
            refine r_goto (tgt := 77) C dX11_isClause_73 (by decide) ?_
            cases h
            exact r_zret C hr (Or.inr rfl) dX11_isClause_77
          · have h := k_f c42 h
            refine r_iload_n C dX11_isClause_45 (rfl : 45 + 1 = 46) rfl ?_
            refine r_ldcS (i := 12) C rfl dX11_isClause_46 (rfl : 46 + 2 = 48) ?_
            obtain ⟨r48, q48, h⟩ := k_b_of h
            refine d_S (As := [.ref (1000000 + 12)]) (st := [.int v0]) (st' := [.int r48, .int v0]) (h' := k_ap [] (shM, I, L, Rf)) C hR ⟨Nat.zero_le _, Nat.zero_le _⟩ ms_X11_of lk_X11_227 dX11_isClause_48 (rfl : 48 + 3 = 51) rfl rfl (c_X11_of X.l u 12 (by decide) (k_ap [] (shM, I, L, Rf)) rfl  q48) rfl rfl rfl rfl rfl ?_
            refine r_icmp_eq (tgt := 72) C dX11_isClause_51 (by decide) (rfl : 51 + 3 = 54) (fun c51 => ?_) (fun c51 => ?_)
            · have h := k_t c51 h
              refine r_iconst (v := (1 : Int32)) C dX11_isClause_72 (rfl : 72 + 1 = 73) rfl ?_
              refine r_goto (tgt := 77) C dX11_isClause_73 (by decide) ?_
              cases h
              exact r_zret C hr (Or.inr rfl) dX11_isClause_77
            · have h := k_f c51 h
              refine r_iload_n C dX11_isClause_54 (rfl : 54 + 1 = 55) rfl ?_
              refine r_ldcS (i := 13) C rfl dX11_isClause_55 (rfl : 55 + 2 = 57) ?_
              obtain ⟨r57, q57, h⟩ := k_b_of h
              refine d_S (As := [.ref (1000000 + 13)]) (st := [.int v0]) (st' := [.int r57, .int v0]) (h' := k_ap [] (shM, I, L, Rf)) C hR ⟨Nat.zero_le _, Nat.zero_le _⟩ ms_X11_of lk_X11_227 dX11_isClause_57 (rfl : 57 + 3 = 60) rfl rfl (c_X11_of X.l u 13 (by decide) (k_ap [] (shM, I, L, Rf)) rfl  q57) rfl rfl rfl rfl rfl ?_
              refine r_icmp_eq (tgt := 72) C dX11_isClause_60 (by decide) (rfl : 60 + 3 = 63) (fun c60 => ?_) (fun c60 => ?_)
              · have h := k_t c60 h
                refine r_iconst (v := (1 : Int32)) C dX11_isClause_72 (rfl : 72 + 1 = 73) rfl ?_
                refine r_goto (tgt := 77) C dX11_isClause_73 (by decide) ?_
                cases h
                exact r_zret C hr (Or.inr rfl) dX11_isClause_77
              · have h := k_f c60 h
                refine r_iload_n C dX11_isClause_63 (rfl : 63 + 1 = 64) rfl ?_
                refine r_ldcS (i := 14) C rfl dX11_isClause_64 (rfl : 64 + 2 = 66) ?_
                obtain ⟨r66, q66, h⟩ := k_b_of h
                refine d_S (As := [.ref (1000000 + 14)]) (st := [.int v0]) (st' := [.int r66, .int v0]) (h' := k_ap [] (shM, I, L, Rf)) C hR ⟨Nat.zero_le _, Nat.zero_le _⟩ ms_X11_of lk_X11_227 dX11_isClause_66 (rfl : 66 + 3 = 69) rfl rfl (c_X11_of X.l u 14 (by decide) (k_ap [] (shM, I, L, Rf)) rfl  q66) rfl rfl rfl rfl rfl ?_
                refine r_icmp_ne (tgt := 76) C dX11_isClause_69 (by decide) (rfl : 69 + 3 = 72) (fun c69 => ?_) (fun c69 => ?_)
                · have h := k_f c69 h
                  refine r_iconst (v := (0 : Int32)) C dX11_isClause_76 (rfl : 76 + 1 = 77) rfl ?_
                  cases h
                  exact r_zret C hr (Or.inl rfl) dX11_isClause_77
                · have h := k_t c69 h
                  refine r_iconst (v := (1 : Int32)) C dX11_isClause_72 (rfl : 72 + 1 = 73) rfl ?_
                  refine r_goto (tgt := 77) C dX11_isClause_73 (by decide) ?_
                  cases h
                  exact r_zret C hr (Or.inr rfl) dX11_isClause_77
set_option maxHeartbeats 400000 in
set_option maxRecDepth 100000 in
theorem c_X11_isClause (l : Launch) (u : Nat) (h : k_H) (hsh : h.1 = shM) {x0 : Int32} {out : Int32} (hf : f_X11_isClause u x0 = some out) : k_CT l yX11_isClause cX11_isClause 1 (some .boolean) 5 107 [.int x0] h (some (.int out)) [] := by
  obtain ⟨sh, I, L, Rf⟩ := h
  try dsimp only
  obtain rfl : sh = shM := hsh
  refine k_ofW (by decide) (Nat.le_of_ble_eq_true rfl) ?_
  intro X ad hl hR0 hr C
  have hR : X.R.frames = 5 ∧ X.R.locals = 107 := by rw [hR0]; exact ⟨rfl, rfl⟩
  have h := hf
  unfold f_X11_isClause at h
  refine k_start (us := []) k_ap_0 ?_
  show k_W X 1 0 0 _ ad (k_ap [] (shM, I, L, Rf)) 0 [some (.int x0)] []
  refine k_mask [true] ?_
  exact sX11_isClause_0 u C hr hR x0 h
