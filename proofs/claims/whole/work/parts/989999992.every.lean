/-! EVERY CALL, and the loop over them -/
theorem q_every {l : Launch} {S : aT} {h : k_H} (hT : l.stackTraces = false) (hlen : h.1.length + 85 ≤ 1000000) (R : Rel S h) (c : Int) (a1 a2 a3 a4 a5 : Int32) : q_all l h c a1 a2 a3 a4 a5 (nxt h) :=
  ⟨fun _ => Q_0 (u := 700) hT (by omega) R a1 a2 a3 a4 a5,
   fun _ => Q_1 (u := 700) hT (by omega) R a1 a2 a3 a4 a5,
   fun _ => Q_2 (u := 700) hT (by omega) R a1 a2 a3 a4 a5,
   fun _ => Q_3 (u := 700) hT (by omega) hlen R a1 a2 a3 a4 a5,
   fun _ => Q_4 (u := 700) hT (by omega) R a1 a2 a3 a4 a5,
   fun _ => T_5 (u := 700) hT R (n_5 (u := 700) R),
   fun _ => Q_6 R a1 a2 a3 a4 a5,
   fun _ => T_7 (u := 700) hT R (n_7 (u := 700) R a1),
   fun _ => T_8 (u := 700) hT R (n_8 (u := 700) (by omega) R a1 a2 a3),
   fun _ => T_9 (u := 700) hT R (n_9 (u := 700) (by omega) R a1 a2),
   fun _ => T_10 (u := 700) hT R (n_10 (u := 700) (by omega) R a1 a2),
   fun _ => T_11 (u := 700) hT R (n_11 (u := 700) R a1 a2),
   fun _ => T_12 (u := 700) hT R (n_12 (u := 700) (by omega) R a1),
   fun _ => T_13 (u := 700) hT R (n_13 (u := 700) (by omega) R a1 a2),
   fun _ => T_14 (u := 700) hT R (n_14 (u := 700) (by omega) R a1 a2),
   fun _ => T_15 (u := 700) hT R (n_15 (u := 700) (by omega) R a1 a2),
   fun _ => T_16 (u := 700) hT R (n_16 (u := 700) (by omega) R a1 a2),
   fun _ => T_17 (u := 700) hT R (n_17 (u := 700) (by omega) R a1 a2),
   fun _ => T_18 (u := 700) hT R (n_18 (u := 700) (by omega) R a1 a2 a3),
   fun _ => T_19 (u := 700) hT R (n_19 (u := 700) (by omega) R a1),
   fun _ => T_20 (u := 700) hT R (n_20 (u := 700) (by omega) R a1),
   fun _ => T_21 (u := 700) hT R (n_21 (u := 700) (by omega) R a1),
   fun _ => T_22 (u := 700) hT R (n_22 (u := 700) (by omega) R a1 a2),
   fun _ => T_23 (u := 700) hT R (n_23 (u := 700) (by omega) R),
   fun _ => T_24 (u := 700) hT R (n_24 (u := 700) (by omega) R a1),
   fun _ => T_25 (u := 700) hT R (n_25 (u := 700) (by omega) R a1 a2 a3),
   fun _ => T_26 (u := 700) hT R (n_26 (u := 700) (by omega) R a1 a2 a3),
   fun _ => T_27 (u := 700) hT R (n_27 (u := 700) (by omega) R a1 a2),
   fun _ => T_28 (u := 700) hT R (n_28 (u := 700) (by omega) R),
   fun _ => T_29 (u := 700) hT R (n_29 (u := 700) (by omega) R),
   fun _ => T_30 (u := 700) hT R (n_30 (u := 700) (by omega) R a1 a2 a3 a4),
   fun _ => T_31 (u := 700) hT R (n_31 (u := 700) (by omega) R a1 a2 a3 a4 a5),
   fun _ => T_32 (u := 700) hT R (n_32 (u := 700) (by omega) R a1),
   fun _ => T_33 (u := 700) hT R (n_33 (u := 700) (by omega) R a1),
   fun _ => Q_34 hlen R a1 a2 a3 a4 a5,
   fun _ => Q_35 hlen R a1 a2 a3 a4 a5,
   fun _ => T_36 (u := 700) hT R (n_36 (u := 700) R a1),
   fun _ => T_37 (u := 700) hT R (n_37 (u := 700) R a1), fun _ => ⟨⟨S, R⟩, by omega⟩⟩
/-- what holds before call j -/
def InvJ (j : Nat) (h : k_H) : Prop := (∃ S, Rel S h) ∧ h.1.length ≤ 103 + 85 * j
set_option maxRecDepth 20000 in
theorem s_loop2 {X : k_X} {N c0 s0 : Nat} {Q : State → Prop} {f : Nat → Int32} (hN : N ≤ 3072) (hR : X.R.frames = 2048 ∧ X.R.locals = 84000) (hc : c0 + 85 * 512 ≤ X.R.cells) (hs : s0 + 714 * 512 ≤ X.R.slots) (he : k_end X Q) {Inv : Nat → k_H → Prop}
    (hst : ∀ (j : Nat) (h : k_H), 6 * j + 6 ≤ N → Inv j h → k_LS h → q_all X.l h (f (6 * j) &&& 63).toInt (f (6 * j + 1)) (f (6 * j + 2)) (f (6 * j + 3)) (f (6 * j + 4)) (f (6 * j + 5)) (nxt h)) (hnx : ∀ (j : Nat) (h h2 : k_H), 6 * j + 6 ≤ N → Inv j h → nxt h h2 → Inv (j + 1) h2) :
    ∀ (r j : Nat) (ad : Nat → Nat) (h : k_H), j + r = 512 → 6 * j ≤ N → Inv j h → k_LS h → k_C X cL_law_ RL 8 ad → va_T .int (ad 5000000) N (fun j => .int (f j)) X.A X.s X.s.heap → k_W X 8 (c0 + 85 * j) (s0 + 714 * j) Q ad h 23 [some (.ref 5000000), some (.ref 0), some (.ref 70), some (.ref 102), some (.int (nI (6 * j))), none, none, none] [] := by
  intro r
  induction r with
  | zero =>
    intro j ad h hj hjN hI hLS C hA
    refine r_iload C dL_law__23 (rfl : 23 + 2 = 25) rfl ?_
    refine r_aload_n C dL_law__25 (rfl : 25 + 1 = 26) rfl ?_
    refine r_argL C hA dL_law__26 (rfl : 26 + 1 = 27) ?_
    refine r_bipush (v := (6 : Int32)) C dL_law__27 (rfl : 27 + 2 = 29) rfl ?_
    refine r_isub C dL_law__29 (rfl : 29 + 1 = 30) ?_
    refine r_icmp_gt (tgt := 2313) C dL_law__30 (by decide) (rfl : 30 + 3 = 33) (fun _ => ?_) (fun z => absurd ((k_sub6 hN (by omega)).mpr (by omega)) z)
    refine r_iconst (v := (1 : Int32)) C dL_law__2313 (rfl : 2313 + 1 = 2314) rfl ?_
    exact he ad h _ _ _ (by omega) (by omega) C
  | succ r ih =>
    intro j ad h hj hjN hI hLS C hA
    refine r_iload C dL_law__23 (rfl : 23 + 2 = 25) rfl ?_
    refine r_aload_n C dL_law__25 (rfl : 25 + 1 = 26) rfl ?_
    refine r_argL C hA dL_law__26 (rfl : 26 + 1 = 27) ?_
    refine r_bipush (v := (6 : Int32)) C dL_law__27 (rfl : 27 + 2 = 29) rfl ?_
    refine r_isub C dL_law__29 (rfl : 29 + 1 = 30) ?_
    refine r_icmp_gt (tgt := 2313) C dL_law__30 (by decide) (rfl : 30 + 3 = 33) (fun _ => ?_) (fun z => ?_)
    · refine r_iconst (v := (1 : Int32)) C dL_law__2313 (rfl : 2313 + 1 = 2314) rfl ?_
      exact he ad h _ _ _ (by omega) (by omega) C
    · have hlt : 6 * j + 6 ≤ N := Nat.le_of_not_lt (fun h => z ((k_sub6 hN (by omega)).mpr h))
      have e0 : k_el N f (nI (6 * j)) (f (6 * j)) := by
        have := k_elN (N := N) (m := 6 * j) (c := 0) (f := f) (by omega) hN
        rwa [nI_add] at this
      refine s_row C hR ⟨by omega, by omega⟩ hA e0 (k_elN (c := 1) (by omega) hN) (k_elN (c := 2) (by omega) hN) (k_elN (c := 3) (by omega) hN) (k_elN (c := 4) (by omega) hN) (k_elN (c := 5) (by omega) hN) hLS (hst j h hlt hI hLS) ?_
      intro ad' h' hI' hLS' hsm C'
      refine r_iinc (v := nI (6 * (j + 1))) C' dL_law__2307 (rfl : 2307 + 3 = 2310) rfl (show nI (6 * j) + nI 6 = nI (6 * (j + 1)) by rw [nI_add]; rfl) (by decide) ?_
      refine r_goto (tgt := 23) C' dL_law__2310 (by decide) ?_
      exact ih (j + 1) ad' h' (by omega) (by omega) (hnx j h h' hlt hI hI') hLS' C' (k_argS hsm (by decide) hA)
