/-! THE PURE CALLS AT THE LAW'S LEVEL, with the picture's length -/
set_option maxRecDepth 40000 in
theorem T_5 {l : Launch} (hT : l.stackTraces = false) {u : Nat} {S : aT} {h : k_H} (R : Rel S h) {a1 a2 a3 a4 a5 : Int32} (N : N_5 u h ) : q_5 l h a1 a2 a3 a4 a5 (nxt h) := by
  obtain ⟨o, o', e1, e2, hm⟩ := N
  obtain ⟨rest, hsh⟩ := rZ_CX R.1
  have hL := rZ_CLS R.1
  subst hm
  refine ⟨o'.1, _, [], _, c_X10_fault l u h hsh rfl e1, ⟨_, c_X11_fault l u (k_pl piM shM _) rfl (k_plI (p := 70) rfl rfl) (k_plI (p := 70) rfl rfl) e2, rfl, rfl, rfl⟩, ⟨⟨_, Rel_eq R (rZ_eqB (us := []) rfl rfl (rZ_f rfl rfl rfl rfl rfl rfl rfl rfl rfl rfl rfl)) R.2.2.2.2.2.2.1.1⟩, (by rw [(ap_Bsh h).1]; omega)⟩⟩
set_option maxRecDepth 40000 in
theorem T_7 {l : Launch} (hT : l.stackTraces = false) {u : Nat} {S : aT} {h : k_H} (R : Rel S h) {a1 a2 a3 a4 a5 : Int32} (N : N_7 u h a1) : q_7 l h a1 a2 a3 a4 a5 (nxt h) := by
  obtain ⟨o, o', e1, e2, hm, hr⟩ := N
  obtain ⟨rest, hsh⟩ := rZ_CX R.1
  have hL := rZ_CLS R.1
  refine ⟨1, 6, _, _, by decide, by decide, c_X10_told l u hT h hsh  rfl rfl rfl rfl rfl rfl rfl rfl rfl rfl rfl rfl rfl e1, ?_, ?_⟩
  · rintro v h1 ⟨hk, rfl, rfl⟩
    rcases hm with ⟨m1, m2, m3⟩ | ⟨m1, m2⟩
    · refine ⟨o.2.1, o'.1, _, rfl, rZ_LSa hL, ⟨_, c_X11_told l u (k_pl piM shM _) rfl (k_plI (p := 70) rfl rfl) (k_plI (p := 70) rfl rfl) (k_plI (p := 70) rfl rfl) (k_plI (p := 70) rfl rfl) (k_plI (p := 70) rfl rfl) (k_plI (p := 70) rfl rfl) (k_plI (p := 70) rfl rfl) (k_plA (p := 71) rfl rfl) (k_plA (p := 90) rfl rfl) e2, rfl, rfl, m2⟩, (show _ = o.2.1.toInt64 from rfl).trans (show o.2.1.toInt64 = o'.1.toInt64 by rw [m3]), ⟨⟨_, Rel_eq R (rZ_eqA rfl rfl _ (rZ_f rfl rfl rfl rfl rfl rfl rfl rfl rfl rfl rfl)) hr⟩, (by rw [(ap_Ash _ h).1]; omega)⟩⟩
    · exact absurd (hk.symm.trans m1) (by decide)
  · rintro E h1 ⟨hk, rfl, rfl⟩
    rcases hm with ⟨m1, m2, m3⟩ | ⟨m1, m2⟩
    · exact absurd m1 hk
    · refine ⟨o'.1, 1, _, rZ_LSa hL, ⟨by rw [m1]; rfl, rfl⟩, ⟨_, c_X11_told l u (k_pl piM shM _) rfl (k_plI (p := 70) rfl rfl) (k_plI (p := 70) rfl rfl) (k_plI (p := 70) rfl rfl) (k_plI (p := 70) rfl rfl) (k_plI (p := 70) rfl rfl) (k_plI (p := 70) rfl rfl) (k_plI (p := 70) rfl rfl) (k_plA (p := 71) rfl rfl) (k_plA (p := 90) rfl rfl) e2, rfl, rfl, m2⟩, ⟨⟨_, Rel_eq R (rZ_eqB rfl rfl (rZ_f rfl rfl rfl rfl rfl rfl rfl rfl rfl rfl rfl)) hr⟩, (by rw [(ap_Bsh h).1]; omega)⟩⟩
set_option maxRecDepth 40000 in
theorem T_8 {l : Launch} (hT : l.stackTraces = false) {u : Nat} {S : aT} {h : k_H} (R : Rel S h) {a1 a2 a3 a4 a5 : Int32} (N : N_8 u h a1 a2 a3) : q_8 l h a1 a2 a3 a4 a5 (nxt h) := by
  obtain ⟨o, o', e1, e2, hm, hr⟩ := N
  obtain ⟨rest, hsh⟩ := rZ_CX R.1
  have hL := rZ_CLS R.1
  refine ⟨2, 12, _, _, by decide, by decide, c_X10_cell l u hT h hsh  rfl rfl rfl rfl rfl rfl rfl rfl e1, ?_, ?_⟩
  · rintro v h1 ⟨hk, rfl, rfl⟩
    rcases hm with ⟨m1, m2, m3⟩ | ⟨m1, m2⟩ | ⟨m1, m2⟩
    · refine ⟨o.2.1, o'.1, _, rfl, rZ_LSa hL, ⟨_, c_X11_cell l u (k_pl piM shM _) rfl (k_plI (p := 70) rfl rfl) (k_plI (p := 70) rfl rfl) (k_plI (p := 70) rfl rfl) (k_plA (p := 71) rfl rfl) (k_plA (p := 77) rfl rfl) (k_plA (p := 78) rfl rfl) (k_plA (p := 90) rfl rfl) (k_plA (p := 91) rfl rfl) e2, rfl, rfl, m2⟩, (show _ = o.2.1.toInt64 from rfl).trans (show o.2.1.toInt64 = o'.1.toInt64 by rw [m3]), ⟨⟨_, Rel_eq R (rZ_eqA rfl rfl _ (rZ_f rfl rfl rfl rfl rfl rfl rfl rfl rfl rfl rfl)) hr⟩, (by rw [(ap_Ash _ h).1]; omega)⟩⟩
    · exact absurd (hk.symm.trans m1) (by decide)
    · exact absurd (hk.symm.trans m1) (by decide)
  · rintro E h1 ⟨hk, rfl, rfl⟩
    rcases hm with ⟨m1, m2, m3⟩ | ⟨m1, m2⟩ | ⟨m1, m2⟩
    · exact absurd m1 hk
    · refine ⟨o'.1, 1, _, rZ_LSa hL, Or.inl ⟨by rw [m1]; rfl, rfl⟩, ⟨_, c_X11_cell l u (k_pl piM shM _) rfl (k_plI (p := 70) rfl rfl) (k_plI (p := 70) rfl rfl) (k_plI (p := 70) rfl rfl) (k_plA (p := 71) rfl rfl) (k_plA (p := 77) rfl rfl) (k_plA (p := 78) rfl rfl) (k_plA (p := 90) rfl rfl) (k_plA (p := 91) rfl rfl) e2, rfl, rfl, m2⟩, ⟨⟨_, Rel_eq R (rZ_eqB rfl rfl (rZ_f rfl rfl rfl rfl rfl rfl rfl rfl rfl rfl rfl)) hr⟩, (by rw [(ap_Bsh h).1]; omega)⟩⟩
    · refine ⟨o'.1, 2, _, rZ_LSa hL, Or.inr ⟨by rw [m1]; rfl, rfl⟩, ⟨_, c_X11_cell l u (k_pl piM shM _) rfl (k_plI (p := 70) rfl rfl) (k_plI (p := 70) rfl rfl) (k_plI (p := 70) rfl rfl) (k_plA (p := 71) rfl rfl) (k_plA (p := 77) rfl rfl) (k_plA (p := 78) rfl rfl) (k_plA (p := 90) rfl rfl) (k_plA (p := 91) rfl rfl) e2, rfl, rfl, m2⟩, ⟨⟨_, Rel_eq R (rZ_eqB rfl rfl (rZ_f rfl rfl rfl rfl rfl rfl rfl rfl rfl rfl rfl)) hr⟩, (by rw [(ap_Bsh h).1]; omega)⟩⟩
set_option maxRecDepth 40000 in
theorem T_9 {l : Launch} (hT : l.stackTraces = false) {u : Nat} {S : aT} {h : k_H} (R : Rel S h) {a1 a2 a3 a4 a5 : Int32} (N : N_9 u h a1 a2) : q_9 l h a1 a2 a3 a4 a5 (nxt h) := by
  obtain ⟨o, o', e1, e2, hm, hr⟩ := N
  obtain ⟨rest, hsh⟩ := rZ_CX R.1
  have hL := rZ_CLS R.1
  refine ⟨1, 6, _, _, by decide, by decide, c_X10_kind l u hT h hsh  rfl rfl rfl rfl rfl rfl rfl rfl rfl rfl e1, ?_, ?_⟩
  · rintro v h1 ⟨hk, rfl, rfl⟩
    rcases hm with ⟨m1, m2, m3⟩ | ⟨m1, m2⟩
    · refine ⟨o.2.1, o'.1, _, rfl, rZ_LSa hL, ⟨_, c_X11_kind l u (k_pl piM shM _) rfl (k_plI (p := 70) rfl rfl) (k_plA (p := 71) rfl rfl) (k_plA (p := 77) rfl rfl) (k_plA (p := 78) rfl rfl) (k_plA (p := 79) rfl rfl) (k_plA (p := 90) rfl rfl) e2, rfl, rfl, m2⟩, (show _ = o.2.1.toInt64 from rfl).trans (show o.2.1.toInt64 = o'.1.toInt64 by rw [m3]), ⟨⟨_, Rel_eq R (rZ_eqA rfl rfl _ (rZ_f rfl rfl rfl rfl rfl rfl rfl rfl rfl rfl rfl)) hr⟩, (by rw [(ap_Ash _ h).1]; omega)⟩⟩
    · exact absurd (hk.symm.trans m1) (by decide)
  · rintro E h1 ⟨hk, rfl, rfl⟩
    rcases hm with ⟨m1, m2, m3⟩ | ⟨m1, m2⟩
    · exact absurd m1 hk
    · refine ⟨o'.1, 1, _, rZ_LSa hL, ⟨by rw [m1]; rfl, rfl⟩, ⟨_, c_X11_kind l u (k_pl piM shM _) rfl (k_plI (p := 70) rfl rfl) (k_plA (p := 71) rfl rfl) (k_plA (p := 77) rfl rfl) (k_plA (p := 78) rfl rfl) (k_plA (p := 79) rfl rfl) (k_plA (p := 90) rfl rfl) e2, rfl, rfl, m2⟩, ⟨⟨_, Rel_eq R (rZ_eqB rfl rfl (rZ_f rfl rfl rfl rfl rfl rfl rfl rfl rfl rfl rfl)) hr⟩, (by rw [(ap_Bsh h).1]; omega)⟩⟩
set_option maxRecDepth 40000 in
theorem T_10 {l : Launch} (hT : l.stackTraces = false) {u : Nat} {S : aT} {h : k_H} (R : Rel S h) {a1 a2 a3 a4 a5 : Int32} (N : N_10 u h a1 a2) : q_10 l h a1 a2 a3 a4 a5 (nxt h) := by
  obtain ⟨o, o', e1, e2, hm, hr⟩ := N
  obtain ⟨rest, hsh⟩ := rZ_CX R.1
  have hL := rZ_CLS R.1
  refine ⟨2, 12, _, _, by decide, by decide, c_X10_order l u hT h hsh  rfl rfl rfl rfl rfl rfl rfl e1, ?_, ?_⟩
  · rintro v h1 ⟨hk, rfl, rfl⟩
    rcases hm with ⟨m1, m2, m3⟩ | ⟨m1, m2⟩ | ⟨m1, m2⟩
    · refine ⟨o.2.1, o'.1, _, rfl, rZ_LSa hL, ⟨_, c_X11_order l u (k_pl piM shM _) rfl (k_plI (p := 70) rfl rfl) (k_plI (p := 70) rfl rfl) (k_plA (p := 71) rfl rfl) (k_plA (p := 79) rfl rfl) (k_plA (p := 80) rfl rfl) (k_plA (p := 90) rfl rfl) e2, rfl, rfl, m2⟩, (show _ = o.2.1.toInt64 from rfl).trans (show o.2.1.toInt64 = o'.1.toInt64 by rw [m3]), ⟨⟨_, Rel_eq R (rZ_eqA rfl rfl _ (rZ_f rfl rfl rfl rfl rfl rfl rfl rfl rfl rfl rfl)) hr⟩, (by rw [(ap_Ash _ h).1]; omega)⟩⟩
    · exact absurd (hk.symm.trans m1) (by decide)
    · exact absurd (hk.symm.trans m1) (by decide)
  · rintro E h1 ⟨hk, rfl, rfl⟩
    rcases hm with ⟨m1, m2, m3⟩ | ⟨m1, m2⟩ | ⟨m1, m2⟩
    · exact absurd m1 hk
    · refine ⟨o'.1, 1, _, rZ_LSa hL, Or.inl ⟨by rw [m1]; rfl, rfl⟩, ⟨_, c_X11_order l u (k_pl piM shM _) rfl (k_plI (p := 70) rfl rfl) (k_plI (p := 70) rfl rfl) (k_plA (p := 71) rfl rfl) (k_plA (p := 79) rfl rfl) (k_plA (p := 80) rfl rfl) (k_plA (p := 90) rfl rfl) e2, rfl, rfl, m2⟩, ⟨⟨_, Rel_eq R (rZ_eqB rfl rfl (rZ_f rfl rfl rfl rfl rfl rfl rfl rfl rfl rfl rfl)) hr⟩, (by rw [(ap_Bsh h).1]; omega)⟩⟩
    · refine ⟨o'.1, 2, _, rZ_LSa hL, Or.inr ⟨by rw [m1]; rfl, rfl⟩, ⟨_, c_X11_order l u (k_pl piM shM _) rfl (k_plI (p := 70) rfl rfl) (k_plI (p := 70) rfl rfl) (k_plA (p := 71) rfl rfl) (k_plA (p := 79) rfl rfl) (k_plA (p := 80) rfl rfl) (k_plA (p := 90) rfl rfl) e2, rfl, rfl, m2⟩, ⟨⟨_, Rel_eq R (rZ_eqB rfl rfl (rZ_f rfl rfl rfl rfl rfl rfl rfl rfl rfl rfl rfl)) hr⟩, (by rw [(ap_Bsh h).1]; omega)⟩⟩
set_option maxRecDepth 40000 in
theorem T_11 {l : Launch} (hT : l.stackTraces = false) {u : Nat} {S : aT} {h : k_H} (R : Rel S h) {a1 a2 a3 a4 a5 : Int32} (N : N_11 u h a1 a2) : q_11 l h a1 a2 a3 a4 a5 (nxt h) := by
  obtain ⟨o, o', e1, e2, hm, hr⟩ := N
  obtain ⟨rest, hsh⟩ := rZ_CX R.1
  have hL := rZ_CLS R.1
  refine ⟨2, 12, _, _, by decide, by decide, c_X10_note l u hT h hsh  rfl rfl rfl rfl e1, ?_, ?_⟩
  · rintro v h1 ⟨hk, rfl, rfl⟩
    rcases hm with ⟨m1, m2, m3⟩ | ⟨m1, m2⟩ | ⟨m1, m2⟩
    · refine ⟨o.2.1, o'.1, _, rfl, rZ_LSa hL, ⟨_, c_X11_note l u (k_pl piM shM _) rfl (k_plI (p := 70) rfl rfl) (k_plI (p := 70) rfl rfl) (k_plA (p := 71) rfl rfl) (k_plA (p := 80) rfl rfl) e2, rfl, rfl, m2⟩, (show _ = o.2.1.toInt64 from rfl).trans (show o.2.1.toInt64 = o'.1.toInt64 by rw [m3]), ⟨⟨_, Rel_eq R (rZ_eqA rfl rfl _ (rZ_f rfl rfl rfl rfl rfl rfl rfl rfl rfl rfl rfl)) hr⟩, (by rw [(ap_Ash _ h).1]; omega)⟩⟩
    · exact absurd (hk.symm.trans m1) (by decide)
    · exact absurd (hk.symm.trans m1) (by decide)
  · rintro E h1 ⟨hk, rfl, rfl⟩
    rcases hm with ⟨m1, m2, m3⟩ | ⟨m1, m2⟩ | ⟨m1, m2⟩
    · exact absurd m1 hk
    · refine ⟨o'.1, 1, _, rZ_LSa hL, Or.inl ⟨by rw [m1]; rfl, rfl⟩, ⟨_, c_X11_note l u (k_pl piM shM _) rfl (k_plI (p := 70) rfl rfl) (k_plI (p := 70) rfl rfl) (k_plA (p := 71) rfl rfl) (k_plA (p := 80) rfl rfl) e2, rfl, rfl, m2⟩, ⟨⟨_, Rel_eq R (rZ_eqB rfl rfl (rZ_f rfl rfl rfl rfl rfl rfl rfl rfl rfl rfl rfl)) hr⟩, (by rw [(ap_Bsh h).1]; omega)⟩⟩
    · refine ⟨o'.1, 2, _, rZ_LSa hL, Or.inr ⟨by rw [m1]; rfl, rfl⟩, ⟨_, c_X11_note l u (k_pl piM shM _) rfl (k_plI (p := 70) rfl rfl) (k_plI (p := 70) rfl rfl) (k_plA (p := 71) rfl rfl) (k_plA (p := 80) rfl rfl) e2, rfl, rfl, m2⟩, ⟨⟨_, Rel_eq R (rZ_eqB rfl rfl (rZ_f rfl rfl rfl rfl rfl rfl rfl rfl rfl rfl rfl)) hr⟩, (by rw [(ap_Bsh h).1]; omega)⟩⟩
set_option maxRecDepth 40000 in
theorem T_12 {l : Launch} (hT : l.stackTraces = false) {u : Nat} {S : aT} {h : k_H} (R : Rel S h) {a1 a2 a3 a4 a5 : Int32} (N : N_12 u h a1) : q_12 l h a1 a2 a3 a4 a5 (nxt h) := by
  obtain ⟨o, o', e1, e2, hm, hr⟩ := N
  obtain ⟨rest, hsh⟩ := rZ_CX R.1
  have hL := rZ_CLS R.1
  refine ⟨1, 6, _, _, by decide, by decide, c_X10_lacks l u hT h hsh  rfl rfl rfl rfl rfl e1, ?_, ?_⟩
  · rintro v h1 ⟨hk, rfl, rfl⟩
    rcases hm with ⟨m1, m2, m3⟩ | ⟨m1, m2⟩
    · refine ⟨o.2.1, o'.1, _, rfl, rZ_LSa hL, ⟨_, c_X11_lacks l u (k_pl piM shM _) rfl (k_plI (p := 70) rfl rfl) (k_plI (p := 70) rfl rfl) (k_plA (p := 71) rfl rfl) (k_plA (p := 80) rfl rfl) (k_plA (p := 90) rfl rfl) (k_plA (p := 91) rfl rfl) (k_plA (p := 94) rfl rfl) e2, rfl, rfl, m2⟩, (show _ = o.2.1.toInt64 from rfl).trans (show o.2.1.toInt64 = o'.1.toInt64 by rw [m3]), ⟨⟨_, Rel_eq R (rZ_eqA rfl rfl _ (rZ_f rfl rfl rfl rfl rfl rfl rfl rfl rfl rfl rfl)) hr⟩, (by rw [(ap_Ash _ h).1]; omega)⟩⟩
    · exact absurd (hk.symm.trans m1) (by decide)
  · rintro E h1 ⟨hk, rfl, rfl⟩
    rcases hm with ⟨m1, m2, m3⟩ | ⟨m1, m2⟩
    · exact absurd m1 hk
    · refine ⟨o'.1, 1, _, rZ_LSa hL, ⟨by rw [m1]; rfl, rfl⟩, ⟨_, c_X11_lacks l u (k_pl piM shM _) rfl (k_plI (p := 70) rfl rfl) (k_plI (p := 70) rfl rfl) (k_plA (p := 71) rfl rfl) (k_plA (p := 80) rfl rfl) (k_plA (p := 90) rfl rfl) (k_plA (p := 91) rfl rfl) (k_plA (p := 94) rfl rfl) e2, rfl, rfl, m2⟩, ⟨⟨_, Rel_eq R (rZ_eqB rfl rfl (rZ_f rfl rfl rfl rfl rfl rfl rfl rfl rfl rfl rfl)) hr⟩, (by rw [(ap_Bsh h).1]; omega)⟩⟩
set_option maxRecDepth 40000 in
theorem T_13 {l : Launch} (hT : l.stackTraces = false) {u : Nat} {S : aT} {h : k_H} (R : Rel S h) {a1 a2 a3 a4 a5 : Int32} (N : N_13 u h a1 a2) : q_13 l h a1 a2 a3 a4 a5 (nxt h) := by
  obtain ⟨o, o', e1, e2, hm, hr⟩ := N
  obtain ⟨rest, hsh⟩ := rZ_CX R.1
  have hL := rZ_CLS R.1
  refine ⟨1, 6, _, _, by decide, by decide, c_X10_can l u hT h hsh  rfl rfl rfl rfl rfl rfl rfl rfl rfl rfl e1, ?_, ?_⟩
  · rintro v h1 ⟨hk, rfl, rfl⟩
    rcases hm with ⟨m1, m2, m3⟩ | ⟨m1, m2⟩
    · refine ⟨o.2.1, o'.1, _, rfl, rZ_LSa hL, ⟨_, c_X11_can l u (k_pl piM shM _) rfl (k_plI (p := 70) rfl rfl) (k_plI (p := 70) rfl rfl) (k_plI (p := 70) rfl rfl) (k_plI (p := 70) rfl rfl) (k_plI (p := 70) rfl rfl) (k_plA (p := 71) rfl rfl) (k_plA (p := 90) rfl rfl) (k_plA (p := 91) rfl rfl) e2, rfl, rfl, m2⟩, (show _ = o.2.1.toInt64 from rfl).trans (show o.2.1.toInt64 = o'.1.toInt64 by rw [m3]), ⟨⟨_, Rel_eq R (rZ_eqA rfl rfl _ (rZ_f rfl rfl rfl rfl rfl rfl rfl rfl rfl rfl rfl)) hr⟩, (by rw [(ap_Ash _ h).1]; omega)⟩⟩
    · exact absurd (hk.symm.trans m1) (by decide)
  · rintro E h1 ⟨hk, rfl, rfl⟩
    rcases hm with ⟨m1, m2, m3⟩ | ⟨m1, m2⟩
    · exact absurd m1 hk
    · refine ⟨o'.1, 1, _, rZ_LSa hL, ⟨by rw [m1]; rfl, rfl⟩, ⟨_, c_X11_can l u (k_pl piM shM _) rfl (k_plI (p := 70) rfl rfl) (k_plI (p := 70) rfl rfl) (k_plI (p := 70) rfl rfl) (k_plI (p := 70) rfl rfl) (k_plI (p := 70) rfl rfl) (k_plA (p := 71) rfl rfl) (k_plA (p := 90) rfl rfl) (k_plA (p := 91) rfl rfl) e2, rfl, rfl, m2⟩, ⟨⟨_, Rel_eq R (rZ_eqB rfl rfl (rZ_f rfl rfl rfl rfl rfl rfl rfl rfl rfl rfl rfl)) hr⟩, (by rw [(ap_Bsh h).1]; omega)⟩⟩
set_option maxRecDepth 40000 in
theorem T_14 {l : Launch} (hT : l.stackTraces = false) {u : Nat} {S : aT} {h : k_H} (R : Rel S h) {a1 a2 a3 a4 a5 : Int32} (N : N_14 u h a1 a2) : q_14 l h a1 a2 a3 a4 a5 (nxt h) := by
  obtain ⟨o, o', e1, e2, hm, hr⟩ := N
  obtain ⟨rest, hsh⟩ := rZ_CX R.1
  have hL := rZ_CLS R.1
  refine ⟨1, 6, _, _, by decide, by decide, c_X10_falls l u hT h hsh  rfl rfl rfl rfl rfl rfl rfl rfl rfl rfl rfl e1, ?_, ?_⟩
  · rintro v h1 ⟨hk, rfl, rfl⟩
    rcases hm with ⟨m1, m2, m3⟩ | ⟨m1, m2⟩
    · refine ⟨o.2.1, o'.1, _, rfl, rZ_LSa hL, ⟨_, c_X11_falls l u (k_pl piM shM _) rfl (k_plI (p := 70) rfl rfl) (k_plI (p := 70) rfl rfl) (k_plI (p := 70) rfl rfl) (k_plA (p := 71) rfl rfl) (k_plA (p := 77) rfl rfl) (k_plA (p := 78) rfl rfl) (k_plA (p := 83) rfl rfl) (k_plA (p := 84) rfl rfl) (k_plA (p := 85) rfl rfl) (k_plA (p := 86) rfl rfl) (k_plA (p := 87) rfl rfl) (k_plA (p := 90) rfl rfl) (k_plA (p := 91) rfl rfl) e2, rfl, rfl, m2⟩, (show _ = (if o.2.1 = 0 then (0 : Int64) else 1) from rfl).trans (show (if o.2.1 = 0 then (0 : Int64) else 1) = (if o'.1 = 0 then (0 : Int64) else 1) by rw [m3]), ⟨⟨_, Rel_eq R (rZ_eqA rfl rfl _ (rZ_f rfl rfl rfl rfl rfl rfl rfl rfl rfl rfl rfl)) hr⟩, (by rw [(ap_Ash _ h).1]; omega)⟩⟩
    · exact absurd (hk.symm.trans m1) (by decide)
  · rintro E h1 ⟨hk, rfl, rfl⟩
    rcases hm with ⟨m1, m2, m3⟩ | ⟨m1, m2⟩
    · exact absurd m1 hk
    · refine ⟨o'.1, 1, _, rZ_LSa hL, ⟨by rw [m1]; rfl, rfl⟩, ⟨_, c_X11_falls l u (k_pl piM shM _) rfl (k_plI (p := 70) rfl rfl) (k_plI (p := 70) rfl rfl) (k_plI (p := 70) rfl rfl) (k_plA (p := 71) rfl rfl) (k_plA (p := 77) rfl rfl) (k_plA (p := 78) rfl rfl) (k_plA (p := 83) rfl rfl) (k_plA (p := 84) rfl rfl) (k_plA (p := 85) rfl rfl) (k_plA (p := 86) rfl rfl) (k_plA (p := 87) rfl rfl) (k_plA (p := 90) rfl rfl) (k_plA (p := 91) rfl rfl) e2, rfl, rfl, m2⟩, ⟨⟨_, Rel_eq R (rZ_eqB rfl rfl (rZ_f rfl rfl rfl rfl rfl rfl rfl rfl rfl rfl rfl)) hr⟩, (by rw [(ap_Bsh h).1]; omega)⟩⟩
set_option maxRecDepth 40000 in
theorem T_15 {l : Launch} (hT : l.stackTraces = false) {u : Nat} {S : aT} {h : k_H} (R : Rel S h) {a1 a2 a3 a4 a5 : Int32} (N : N_15 u h a1 a2) : q_15 l h a1 a2 a3 a4 a5 (nxt h) := by
  obtain ⟨o, o', e1, e2, hm, hr⟩ := N
  obtain ⟨rest, hsh⟩ := rZ_CX R.1
  have hL := rZ_CLS R.1
  refine ⟨1, 6, _, _, by decide, by decide, c_X10_risks l u hT h hsh R.1.2.2.1 rfl rfl rfl rfl rfl rfl rfl rfl rfl rfl rfl rfl rfl rfl rfl rfl rfl rfl rfl rfl rfl rfl rfl rfl rfl rfl rfl rfl rfl rfl rfl rfl rfl rfl rfl rfl rfl rfl rfl rfl rfl e1, ?_, ?_⟩
  · rintro v h1 ⟨hk, rfl, rfl⟩
    rcases hm with ⟨m1, m2, m3⟩ | ⟨m1, m2⟩
    · refine ⟨o.2.1, o'.1, _, rfl, rZ_LSa hL, ⟨_, c_X11_risks l u (k_pl piM shM _) rfl (k_plI (p := 70) rfl rfl) (k_plI (p := 70) rfl rfl) (k_plI (p := 70) rfl rfl) (k_plI (p := 70) rfl rfl) (k_plA (p := 71) rfl rfl) (k_plA (p := 77) rfl rfl) (k_plA (p := 78) rfl rfl) (k_plA (p := 83) rfl rfl) (k_plA (p := 84) rfl rfl) (k_plA (p := 85) rfl rfl) (k_plA (p := 86) rfl rfl) (k_plA (p := 87) rfl rfl) (k_plA (p := 90) rfl rfl) (k_plA (p := 91) rfl rfl) (k_plA (p := 93) rfl rfl) e2, rfl, rfl, m2⟩, (show _ = o.2.1.toInt64 from rfl).trans (show o.2.1.toInt64 = o'.1.toInt64 by rw [m3]), ⟨⟨_, Rel_eq R (rZ_eqA rfl rfl _ (rZ_f rfl rfl rfl rfl rfl rfl rfl rfl rfl rfl rfl)) hr⟩, (by rw [(ap_Ash _ h).1]; omega)⟩⟩
    · exact absurd (hk.symm.trans m1) (by decide)
  · rintro E h1 ⟨hk, rfl, rfl⟩
    rcases hm with ⟨m1, m2, m3⟩ | ⟨m1, m2⟩
    · exact absurd m1 hk
    · refine ⟨o'.1, 1, _, rZ_LSa hL, ⟨by rw [m1]; rfl, rfl⟩, ⟨_, c_X11_risks l u (k_pl piM shM _) rfl (k_plI (p := 70) rfl rfl) (k_plI (p := 70) rfl rfl) (k_plI (p := 70) rfl rfl) (k_plI (p := 70) rfl rfl) (k_plA (p := 71) rfl rfl) (k_plA (p := 77) rfl rfl) (k_plA (p := 78) rfl rfl) (k_plA (p := 83) rfl rfl) (k_plA (p := 84) rfl rfl) (k_plA (p := 85) rfl rfl) (k_plA (p := 86) rfl rfl) (k_plA (p := 87) rfl rfl) (k_plA (p := 90) rfl rfl) (k_plA (p := 91) rfl rfl) (k_plA (p := 93) rfl rfl) e2, rfl, rfl, m2⟩, ⟨⟨_, Rel_eq R (rZ_eqB rfl rfl (rZ_f rfl rfl rfl rfl rfl rfl rfl rfl rfl rfl rfl)) hr⟩, (by rw [(ap_Bsh h).1]; omega)⟩⟩
set_option maxRecDepth 40000 in
theorem T_16 {l : Launch} (hT : l.stackTraces = false) {u : Nat} {S : aT} {h : k_H} (R : Rel S h) {a1 a2 a3 a4 a5 : Int32} (N : N_16 u h a1 a2) : q_16 l h a1 a2 a3 a4 a5 (nxt h) := by
  obtain ⟨o, o', e1, e2, hm, hr⟩ := N
  obtain ⟨rest, hsh⟩ := rZ_CX R.1
  have hL := rZ_CLS R.1
  refine ⟨1, 6, _, _, by decide, by decide, c_X10_harm l u hT h hsh  rfl rfl rfl rfl rfl rfl rfl rfl rfl rfl rfl e1, ?_, ?_⟩
  · rintro v h1 ⟨hk, rfl, rfl⟩
    rcases hm with ⟨m1, m2, m3⟩ | ⟨m1, m2⟩
    · refine ⟨o.2.1, o'.1, _, rfl, rZ_LSa hL, ⟨_, c_X11_harm l u (k_pl piM shM _) rfl (k_plI (p := 70) rfl rfl) (k_plI (p := 70) rfl rfl) (k_plI (p := 70) rfl rfl) (k_plA (p := 71) rfl rfl) (k_plA (p := 77) rfl rfl) (k_plA (p := 78) rfl rfl) (k_plA (p := 83) rfl rfl) (k_plA (p := 84) rfl rfl) (k_plA (p := 85) rfl rfl) (k_plA (p := 86) rfl rfl) (k_plA (p := 87) rfl rfl) (k_plA (p := 90) rfl rfl) (k_plA (p := 91) rfl rfl) e2, rfl, rfl, m2⟩, (show _ = o.2.1.toInt64 from rfl).trans (show o.2.1.toInt64 = o'.1.toInt64 by rw [m3]), ⟨⟨_, Rel_eq R (rZ_eqA rfl rfl _ (rZ_f rfl rfl rfl rfl rfl rfl rfl rfl rfl rfl rfl)) hr⟩, (by rw [(ap_Ash _ h).1]; omega)⟩⟩
    · exact absurd (hk.symm.trans m1) (by decide)
  · rintro E h1 ⟨hk, rfl, rfl⟩
    rcases hm with ⟨m1, m2, m3⟩ | ⟨m1, m2⟩
    · exact absurd m1 hk
    · refine ⟨o'.1, 1, _, rZ_LSa hL, ⟨by rw [m1]; rfl, rfl⟩, ⟨_, c_X11_harm l u (k_pl piM shM _) rfl (k_plI (p := 70) rfl rfl) (k_plI (p := 70) rfl rfl) (k_plI (p := 70) rfl rfl) (k_plA (p := 71) rfl rfl) (k_plA (p := 77) rfl rfl) (k_plA (p := 78) rfl rfl) (k_plA (p := 83) rfl rfl) (k_plA (p := 84) rfl rfl) (k_plA (p := 85) rfl rfl) (k_plA (p := 86) rfl rfl) (k_plA (p := 87) rfl rfl) (k_plA (p := 90) rfl rfl) (k_plA (p := 91) rfl rfl) e2, rfl, rfl, m2⟩, ⟨⟨_, Rel_eq R (rZ_eqB rfl rfl (rZ_f rfl rfl rfl rfl rfl rfl rfl rfl rfl rfl rfl)) hr⟩, (by rw [(ap_Bsh h).1]; omega)⟩⟩
set_option maxRecDepth 40000 in
theorem T_17 {l : Launch} (hT : l.stackTraces = false) {u : Nat} {S : aT} {h : k_H} (R : Rel S h) {a1 a2 a3 a4 a5 : Int32} (N : N_17 u h a1 a2) : q_17 l h a1 a2 a3 a4 a5 (nxt h) := by
  obtain ⟨o, o', e1, e2, hm, hr⟩ := N
  obtain ⟨rest, hsh⟩ := rZ_CX R.1
  have hL := rZ_CLS R.1
  refine ⟨1, 6, _, _, by decide, by decide, c_X10_best l u hT h hsh R.1.2.2.1 R.1.2.2.2.1 R.1.2.2.2.2 rfl rfl rfl rfl rfl rfl rfl rfl rfl rfl rfl rfl rfl rfl rfl rfl rfl rfl rfl rfl rfl rfl rfl rfl rfl rfl rfl rfl rfl rfl rfl rfl rfl rfl rfl rfl rfl rfl rfl rfl rfl rfl rfl rfl rfl rfl rfl rfl rfl rfl rfl rfl rfl rfl rfl rfl rfl rfl rfl rfl rfl rfl rfl rfl rfl rfl rfl rfl rfl rfl rfl rfl rfl rfl rfl e1, ?_, ?_⟩
  · rintro v h1 ⟨hk, rfl, rfl⟩
    rcases hm with ⟨m1, m2, m3⟩ | ⟨m1, m2⟩
    · refine ⟨o.2.1, o'.1, _, rfl, rZ_LSa hL, ⟨_, c_X11_best l u (k_pl piM shM _) rfl (k_plI (p := 70) rfl rfl) (k_plI (p := 70) rfl rfl) (k_plI (p := 70) rfl rfl) (k_plI (p := 70) rfl rfl) (k_plI (p := 70) rfl rfl) (k_plI (p := 70) rfl rfl) (k_plL (p := 70) rfl rfl) (k_plA (p := 71) rfl rfl) (k_plA (p := 77) rfl rfl) (k_plA (p := 78) rfl rfl) (k_plA (p := 79) rfl rfl) (k_plA (p := 83) rfl rfl) (k_plA (p := 84) rfl rfl) (k_plA (p := 85) rfl rfl) (k_plA (p := 86) rfl rfl) (k_plA (p := 87) rfl rfl) (k_plA (p := 90) rfl rfl) (k_plA (p := 91) rfl rfl) (k_plA (p := 93) rfl rfl) (k_plA (p := 97) rfl rfl) e2, rfl, rfl, m2⟩, (show _ = o.2.1 from rfl).trans (show o.2.1 = o'.1 by rw [m3]), ⟨⟨_, Rel_eq R (rZ_eqA rfl rfl _ (rZ_f rfl rfl rfl rfl rfl rfl rfl rfl rfl rfl rfl)) hr⟩, (by rw [(ap_Ash _ h).1]; omega)⟩⟩
    · exact absurd (hk.symm.trans m1) (by decide)
  · rintro E h1 ⟨hk, rfl, rfl⟩
    rcases hm with ⟨m1, m2, m3⟩ | ⟨m1, m2⟩
    · exact absurd m1 hk
    · refine ⟨o'.1, 1, _, rZ_LSa hL, ⟨by rw [m1]; rfl, rfl⟩, ⟨_, c_X11_best l u (k_pl piM shM _) rfl (k_plI (p := 70) rfl rfl) (k_plI (p := 70) rfl rfl) (k_plI (p := 70) rfl rfl) (k_plI (p := 70) rfl rfl) (k_plI (p := 70) rfl rfl) (k_plI (p := 70) rfl rfl) (k_plL (p := 70) rfl rfl) (k_plA (p := 71) rfl rfl) (k_plA (p := 77) rfl rfl) (k_plA (p := 78) rfl rfl) (k_plA (p := 79) rfl rfl) (k_plA (p := 83) rfl rfl) (k_plA (p := 84) rfl rfl) (k_plA (p := 85) rfl rfl) (k_plA (p := 86) rfl rfl) (k_plA (p := 87) rfl rfl) (k_plA (p := 90) rfl rfl) (k_plA (p := 91) rfl rfl) (k_plA (p := 93) rfl rfl) (k_plA (p := 97) rfl rfl) e2, rfl, rfl, m2⟩, ⟨⟨_, Rel_eq R (rZ_eqB rfl rfl (rZ_f rfl rfl rfl rfl rfl rfl rfl rfl rfl rfl rfl)) hr⟩, (by rw [(ap_Bsh h).1]; omega)⟩⟩
set_option maxRecDepth 40000 in
theorem T_18 {l : Launch} (hT : l.stackTraces = false) {u : Nat} {S : aT} {h : k_H} (R : Rel S h) {a1 a2 a3 a4 a5 : Int32} (N : N_18 u h a1 a2 a3) : q_18 l h a1 a2 a3 a4 a5 (nxt h) := by
  obtain ⟨o, o', e1, e2, hm, hr⟩ := N
  obtain ⟨rest, hsh⟩ := rZ_CX R.1
  have hL := rZ_CLS R.1
  refine ⟨2, 12, _, _, by decide, by decide, c_X10_way l u hT h hsh  rfl rfl rfl rfl rfl rfl rfl rfl rfl rfl rfl e1, ?_, ?_⟩
  · rintro v h1 ⟨hk, rfl, rfl⟩
    rcases hm with ⟨m1, m2, m3⟩ | ⟨m1, m2⟩ | ⟨m1, m2⟩
    · refine ⟨o.2.1, o'.1, _, rfl, rZ_LSa hL, ⟨_, c_X11_way l u (k_pl piM shM _) rfl (k_plI (p := 70) rfl rfl) (k_plI (p := 70) rfl rfl) (k_plI (p := 70) rfl rfl) (k_plI (p := 70) rfl rfl) (k_plA (p := 71) rfl rfl) (k_plA (p := 77) rfl rfl) (k_plA (p := 78) rfl rfl) (k_plA (p := 90) rfl rfl) (k_plA (p := 91) rfl rfl) (k_plA (p := 98) rfl rfl) (k_plA (p := 99) rfl rfl) e2, rfl, rfl, m2⟩, (show _ = o.2.1.toInt64 from rfl).trans (show o.2.1.toInt64 = o'.1.toInt64 by rw [m3]), ⟨⟨_, Rel_eq R (rZ_eqA rfl rfl _ (rZ_f rfl rfl rfl rfl rfl rfl rfl rfl rfl rfl rfl)) hr⟩, (by rw [(ap_Ash _ h).1]; omega)⟩⟩
    · exact absurd (hk.symm.trans m1) (by decide)
    · exact absurd (hk.symm.trans m1) (by decide)
  · rintro E h1 ⟨hk, rfl, rfl⟩
    rcases hm with ⟨m1, m2, m3⟩ | ⟨m1, m2⟩ | ⟨m1, m2⟩
    · exact absurd m1 hk
    · refine ⟨o'.1, 1, _, rZ_LSa hL, Or.inl ⟨by rw [m1]; rfl, rfl⟩, ⟨_, c_X11_way l u (k_pl piM shM _) rfl (k_plI (p := 70) rfl rfl) (k_plI (p := 70) rfl rfl) (k_plI (p := 70) rfl rfl) (k_plI (p := 70) rfl rfl) (k_plA (p := 71) rfl rfl) (k_plA (p := 77) rfl rfl) (k_plA (p := 78) rfl rfl) (k_plA (p := 90) rfl rfl) (k_plA (p := 91) rfl rfl) (k_plA (p := 98) rfl rfl) (k_plA (p := 99) rfl rfl) e2, rfl, rfl, m2⟩, ⟨⟨_, Rel_eq R (rZ_eqB rfl rfl (rZ_f rfl rfl rfl rfl rfl rfl rfl rfl rfl rfl rfl)) hr⟩, (by rw [(ap_Bsh h).1]; omega)⟩⟩
    · refine ⟨o'.1, 2, _, rZ_LSa hL, Or.inr ⟨by rw [m1]; rfl, rfl⟩, ⟨_, c_X11_way l u (k_pl piM shM _) rfl (k_plI (p := 70) rfl rfl) (k_plI (p := 70) rfl rfl) (k_plI (p := 70) rfl rfl) (k_plI (p := 70) rfl rfl) (k_plA (p := 71) rfl rfl) (k_plA (p := 77) rfl rfl) (k_plA (p := 78) rfl rfl) (k_plA (p := 90) rfl rfl) (k_plA (p := 91) rfl rfl) (k_plA (p := 98) rfl rfl) (k_plA (p := 99) rfl rfl) e2, rfl, rfl, m2⟩, ⟨⟨_, Rel_eq R (rZ_eqB rfl rfl (rZ_f rfl rfl rfl rfl rfl rfl rfl rfl rfl rfl rfl)) hr⟩, (by rw [(ap_Bsh h).1]; omega)⟩⟩
set_option maxRecDepth 40000 in
theorem T_19 {l : Launch} (hT : l.stackTraces = false) {u : Nat} {S : aT} {h : k_H} (R : Rel S h) {a1 a2 a3 a4 a5 : Int32} (N : N_19 u h a1) : q_19 l h a1 a2 a3 a4 a5 (nxt h) := by
  obtain ⟨o, o', e1, e2, hm, hr⟩ := N
  obtain ⟨rest, hsh⟩ := rZ_CX R.1
  have hL := rZ_CLS R.1
  refine ⟨1, 6, _, _, by decide, by decide, c_X10_hold l u hT h hsh R.1.2.2.1 rfl rfl rfl rfl rfl rfl rfl rfl rfl rfl rfl rfl rfl rfl rfl rfl rfl rfl rfl rfl rfl rfl rfl rfl rfl rfl rfl rfl rfl rfl rfl rfl rfl rfl rfl rfl rfl e1, ?_, ?_⟩
  · rintro v h1 ⟨hk, rfl, rfl⟩
    rcases hm with ⟨m1, m2, m3⟩ | ⟨m1, m2⟩
    · refine ⟨o.2.1, o'.1, _, rfl, rZ_LSa hL, ⟨_, c_X11_hold l u (k_pl piM shM _) rfl (k_plI (p := 70) rfl rfl) (k_plI (p := 70) rfl rfl) (k_plI (p := 70) rfl rfl) (k_plA (p := 71) rfl rfl) (k_plA (p := 77) rfl rfl) (k_plA (p := 78) rfl rfl) (k_plA (p := 83) rfl rfl) (k_plA (p := 84) rfl rfl) (k_plA (p := 85) rfl rfl) (k_plA (p := 86) rfl rfl) (k_plA (p := 87) rfl rfl) (k_plA (p := 90) rfl rfl) (k_plA (p := 91) rfl rfl) (k_plA (p := 93) rfl rfl) e2, rfl, rfl, m2⟩, (show _ = o.2.1 from rfl).trans (show o.2.1 = o'.1 by rw [m3]), ⟨⟨_, Rel_eq R (rZ_eqA rfl rfl _ (rZ_f rfl rfl rfl rfl rfl rfl rfl rfl rfl rfl rfl)) hr⟩, (by rw [(ap_Ash _ h).1]; omega)⟩⟩
    · exact absurd (hk.symm.trans m1) (by decide)
  · rintro E h1 ⟨hk, rfl, rfl⟩
    rcases hm with ⟨m1, m2, m3⟩ | ⟨m1, m2⟩
    · exact absurd m1 hk
    · refine ⟨o'.1, 1, _, rZ_LSa hL, ⟨by rw [m1]; rfl, rfl⟩, ⟨_, c_X11_hold l u (k_pl piM shM _) rfl (k_plI (p := 70) rfl rfl) (k_plI (p := 70) rfl rfl) (k_plI (p := 70) rfl rfl) (k_plA (p := 71) rfl rfl) (k_plA (p := 77) rfl rfl) (k_plA (p := 78) rfl rfl) (k_plA (p := 83) rfl rfl) (k_plA (p := 84) rfl rfl) (k_plA (p := 85) rfl rfl) (k_plA (p := 86) rfl rfl) (k_plA (p := 87) rfl rfl) (k_plA (p := 90) rfl rfl) (k_plA (p := 91) rfl rfl) (k_plA (p := 93) rfl rfl) e2, rfl, rfl, m2⟩, ⟨⟨_, Rel_eq R (rZ_eqB rfl rfl (rZ_f rfl rfl rfl rfl rfl rfl rfl rfl rfl rfl rfl)) hr⟩, (by rw [(ap_Bsh h).1]; omega)⟩⟩
set_option maxRecDepth 40000 in
theorem T_20 {l : Launch} (hT : l.stackTraces = false) {u : Nat} {S : aT} {h : k_H} (R : Rel S h) {a1 a2 a3 a4 a5 : Int32} (N : N_20 u h a1) : q_20 l h a1 a2 a3 a4 a5 (nxt h) := by
  obtain ⟨o, o', e1, e2, hm, hr⟩ := N
  obtain ⟨rest, hsh⟩ := rZ_CX R.1
  have hL := rZ_CLS R.1
  refine ⟨1, 6, _, _, by decide, by decide, c_X10_fill l u hT h hsh  rfl rfl rfl rfl rfl rfl rfl e1, ?_, ?_⟩
  · rintro v h1 ⟨hk, rfl, rfl⟩
    rcases hm with ⟨m1, m2, m3⟩ | ⟨m1, m2⟩
    · refine ⟨o.2.1, o'.1, _, rfl, rZ_LSa hL, ⟨_, c_X11_fill l u (k_pl piM shM _) rfl (k_plI (p := 70) rfl rfl) (k_plI (p := 70) rfl rfl) (k_plA (p := 71) rfl rfl) (k_plA (p := 79) rfl rfl) (k_plA (p := 80) rfl rfl) (k_plA (p := 90) rfl rfl) (k_plA (p := 91) rfl rfl) (k_plA (p := 94) rfl rfl) e2, rfl, rfl, m2⟩, (show _ = o.2.1.toInt64 from rfl).trans (show o.2.1.toInt64 = o'.1.toInt64 by rw [m3]), ⟨⟨_, Rel_eq R (rZ_eqA rfl rfl _ (rZ_f rfl rfl rfl rfl rfl rfl rfl rfl rfl rfl rfl)) hr⟩, (by rw [(ap_Ash _ h).1]; omega)⟩⟩
    · exact absurd (hk.symm.trans m1) (by decide)
  · rintro E h1 ⟨hk, rfl, rfl⟩
    rcases hm with ⟨m1, m2, m3⟩ | ⟨m1, m2⟩
    · exact absurd m1 hk
    · refine ⟨o'.1, 1, _, rZ_LSa hL, ⟨by rw [m1]; rfl, rfl⟩, ⟨_, c_X11_fill l u (k_pl piM shM _) rfl (k_plI (p := 70) rfl rfl) (k_plI (p := 70) rfl rfl) (k_plA (p := 71) rfl rfl) (k_plA (p := 79) rfl rfl) (k_plA (p := 80) rfl rfl) (k_plA (p := 90) rfl rfl) (k_plA (p := 91) rfl rfl) (k_plA (p := 94) rfl rfl) e2, rfl, rfl, m2⟩, ⟨⟨_, Rel_eq R (rZ_eqB rfl rfl (rZ_f rfl rfl rfl rfl rfl rfl rfl rfl rfl rfl rfl)) hr⟩, (by rw [(ap_Bsh h).1]; omega)⟩⟩
set_option maxRecDepth 40000 in
theorem T_21 {l : Launch} (hT : l.stackTraces = false) {u : Nat} {S : aT} {h : k_H} (R : Rel S h) {a1 a2 a3 a4 a5 : Int32} (N : N_21 u h a1) : q_21 l h a1 a2 a3 a4 a5 (nxt h) := by
  obtain ⟨o, o', e1, e2, hm, hr⟩ := N
  obtain ⟨rest, hsh⟩ := rZ_CX R.1
  have hL := rZ_CLS R.1
  refine ⟨1, 6, _, _, by decide, by decide, c_X10_tap l u hT h hsh  rfl rfl rfl rfl e1, ?_, ?_⟩
  · rintro v h1 ⟨hk, rfl, rfl⟩
    rcases hm with ⟨m1, m2, m3⟩ | ⟨m1, m2⟩
    · refine ⟨o.2.1, o'.1, _, rfl, rZ_LSa hL, ⟨_, c_X11_tap l u (k_pl piM shM _) rfl (k_plI (p := 70) rfl rfl) (k_plI (p := 70) rfl rfl) (k_plI (p := 70) rfl rfl) (k_plA (p := 71) rfl rfl) (k_plA (p := 77) rfl rfl) e2, rfl, rfl, m2⟩, (show _ = o.2.1.toInt64 from rfl).trans (show o.2.1.toInt64 = o'.1.toInt64 by rw [m3]), ⟨⟨_, Rel_eq R (rZ_eqA rfl rfl _ (rZ_f rfl rfl rfl rfl rfl rfl rfl rfl rfl rfl rfl)) hr⟩, (by rw [(ap_Ash _ h).1]; omega)⟩⟩
    · exact absurd (hk.symm.trans m1) (by decide)
  · rintro E h1 ⟨hk, rfl, rfl⟩
    rcases hm with ⟨m1, m2, m3⟩ | ⟨m1, m2⟩
    · exact absurd m1 hk
    · refine ⟨o'.1, 1, _, rZ_LSa hL, ⟨by rw [m1]; rfl, rfl⟩, ⟨_, c_X11_tap l u (k_pl piM shM _) rfl (k_plI (p := 70) rfl rfl) (k_plI (p := 70) rfl rfl) (k_plI (p := 70) rfl rfl) (k_plA (p := 71) rfl rfl) (k_plA (p := 77) rfl rfl) e2, rfl, rfl, m2⟩, ⟨⟨_, Rel_eq R (rZ_eqB rfl rfl (rZ_f rfl rfl rfl rfl rfl rfl rfl rfl rfl rfl rfl)) hr⟩, (by rw [(ap_Bsh h).1]; omega)⟩⟩
set_option maxRecDepth 40000 in
theorem T_22 {l : Launch} (hT : l.stackTraces = false) {u : Nat} {S : aT} {h : k_H} (R : Rel S h) {a1 a2 a3 a4 a5 : Int32} (N : N_22 u h a1 a2) : q_22 l h a1 a2 a3 a4 a5 (nxt h) := by
  obtain ⟨o, o', e1, e2, hm, hr⟩ := N
  obtain ⟨rest, hsh⟩ := rZ_CX R.1
  have hL := rZ_CLS R.1
  refine ⟨1, 6, _, _, by decide, by decide, c_X10_moved l u hT h hsh  rfl rfl rfl rfl e1, ?_, ?_⟩
  · rintro v h1 ⟨hk, rfl, rfl⟩
    rcases hm with ⟨m1, m2, m3⟩ | ⟨m1, m2⟩
    · refine ⟨o.2.1, o'.1, _, rfl, rZ_LSa hL, ⟨_, c_X11_moved l u (k_pl piM shM _) rfl (k_plI (p := 70) rfl rfl) (k_plI (p := 70) rfl rfl) (k_plI (p := 70) rfl rfl) (k_plA (p := 71) rfl rfl) (k_plA (p := 77) rfl rfl) e2, rfl, rfl, m2⟩, (show _ = o.2.1.toInt64 from rfl).trans (show o.2.1.toInt64 = o'.1.toInt64 by rw [m3]), ⟨⟨_, Rel_eq R (rZ_eqA rfl rfl _ (rZ_f rfl rfl rfl rfl rfl rfl rfl rfl rfl rfl rfl)) hr⟩, (by rw [(ap_Ash _ h).1]; omega)⟩⟩
    · exact absurd (hk.symm.trans m1) (by decide)
  · rintro E h1 ⟨hk, rfl, rfl⟩
    rcases hm with ⟨m1, m2, m3⟩ | ⟨m1, m2⟩
    · exact absurd m1 hk
    · refine ⟨o'.1, 1, _, rZ_LSa hL, ⟨by rw [m1]; rfl, rfl⟩, ⟨_, c_X11_moved l u (k_pl piM shM _) rfl (k_plI (p := 70) rfl rfl) (k_plI (p := 70) rfl rfl) (k_plI (p := 70) rfl rfl) (k_plA (p := 71) rfl rfl) (k_plA (p := 77) rfl rfl) e2, rfl, rfl, m2⟩, ⟨⟨_, Rel_eq R (rZ_eqB rfl rfl (rZ_f rfl rfl rfl rfl rfl rfl rfl rfl rfl rfl rfl)) hr⟩, (by rw [(ap_Bsh h).1]; omega)⟩⟩
set_option maxRecDepth 40000 in
theorem T_23 {l : Launch} (hT : l.stackTraces = false) {u : Nat} {S : aT} {h : k_H} (R : Rel S h) {a1 a2 a3 a4 a5 : Int32} (N : N_23 u h ) : q_23 l h a1 a2 a3 a4 a5 (nxt h) := by
  obtain ⟨o, o', e1, e2, hm⟩ := N
  obtain ⟨rest, hsh⟩ := rZ_CX R.1
  have hL := rZ_CLS R.1
  subst hm
  refine ⟨o'.1, _, [], _, c_X10_fits l u h hsh rfl rfl rfl rfl e1, ⟨_, c_X11_fits l u (k_pl piM shM _) rfl (k_plI (p := 70) rfl rfl) (k_plI (p := 70) rfl rfl) (k_plI (p := 70) rfl rfl) (k_plI (p := 70) rfl rfl) (k_plA (p := 77) rfl rfl) (k_plA (p := 96) rfl rfl) e2, rfl, rfl, rfl⟩, ⟨⟨_, Rel_eq R (rZ_eqB (us := []) rfl rfl (rZ_f rfl rfl rfl rfl rfl rfl rfl rfl rfl rfl rfl)) R.2.2.2.2.2.2.1.1⟩, (by rw [(ap_Bsh h).1]; omega)⟩⟩
set_option maxRecDepth 40000 in
theorem T_24 {l : Launch} (hT : l.stackTraces = false) {u : Nat} {S : aT} {h : k_H} (R : Rel S h) {a1 a2 a3 a4 a5 : Int32} (N : N_24 u h a1) : q_24 l h a1 a2 a3 a4 a5 (nxt h) := by
  obtain ⟨o, o', e1, e2, hm, hr⟩ := N
  obtain ⟨rest, hsh⟩ := rZ_CX R.1
  have hL := rZ_CLS R.1
  refine ⟨1, 6, _, _, by decide, by decide, c_X10_next l u hT h hsh  rfl rfl rfl rfl rfl e1, ?_, ?_⟩
  · rintro v h1 ⟨hk, rfl, rfl⟩
    rcases hm with ⟨m1, m2, m3⟩ | ⟨m1, m2⟩
    · refine ⟨o.2.1, o'.1, _, rfl, rZ_LSa hL, ⟨_, c_X11_next_ l u (k_pl piM shM _) rfl (k_plI (p := 70) rfl rfl) (k_plI (p := 70) rfl rfl) (k_plI (p := 70) rfl rfl) (k_plI (p := 70) rfl rfl) (k_plA (p := 71) rfl rfl) (k_plA (p := 77) rfl rfl) (k_plA (p := 96) rfl rfl) (k_plA (p := 100) rfl rfl) e2, rfl, rfl, m2⟩, (show _ = o.2.1.toInt64 from rfl).trans (show o.2.1.toInt64 = o'.1.toInt64 by rw [m3]), ⟨⟨_, Rel_eq R (rZ_eqA rfl rfl _ (rZ_f rfl rfl rfl rfl rfl rfl rfl rfl rfl rfl rfl)) hr⟩, (by rw [(ap_Ash _ h).1]; omega)⟩⟩
    · exact absurd (hk.symm.trans m1) (by decide)
  · rintro E h1 ⟨hk, rfl, rfl⟩
    rcases hm with ⟨m1, m2, m3⟩ | ⟨m1, m2⟩
    · exact absurd m1 hk
    · refine ⟨o'.1, 1, _, rZ_LSa hL, ⟨by rw [m1]; rfl, rfl⟩, ⟨_, c_X11_next_ l u (k_pl piM shM _) rfl (k_plI (p := 70) rfl rfl) (k_plI (p := 70) rfl rfl) (k_plI (p := 70) rfl rfl) (k_plI (p := 70) rfl rfl) (k_plA (p := 71) rfl rfl) (k_plA (p := 77) rfl rfl) (k_plA (p := 96) rfl rfl) (k_plA (p := 100) rfl rfl) e2, rfl, rfl, m2⟩, ⟨⟨_, Rel_eq R (rZ_eqB rfl rfl (rZ_f rfl rfl rfl rfl rfl rfl rfl rfl rfl rfl rfl)) hr⟩, (by rw [(ap_Bsh h).1]; omega)⟩⟩
set_option maxRecDepth 40000 in
theorem T_25 {l : Launch} (hT : l.stackTraces = false) {u : Nat} {S : aT} {h : k_H} (R : Rel S h) {a1 a2 a3 a4 a5 : Int32} (N : N_25 u h a1 a2 a3) : q_25 l h a1 a2 a3 a4 a5 (nxt h) := by
  obtain ⟨o, o', e1, e2, hm, hr⟩ := N
  obtain ⟨rest, hsh⟩ := rZ_CX R.1
  have hL := rZ_CLS R.1
  refine ⟨1, 6, _, _, by decide, by decide, c_X10_canon l u hT h hsh  rfl rfl rfl rfl e1, ?_, ?_⟩
  · rintro v h1 ⟨hk, rfl, rfl⟩
    rcases hm with ⟨m1, m2, m3⟩ | ⟨m1, m2⟩
    · refine ⟨o.2.1, o'.1, _, rfl, rZ_LSa hL, ⟨_, c_X11_canon l u (k_pl piM shM _) rfl (k_plI (p := 70) rfl rfl) (k_plI (p := 70) rfl rfl) (k_plI (p := 70) rfl rfl) (k_plA (p := 71) rfl rfl) (k_plA (p := 77) rfl rfl) e2, rfl, rfl, m2⟩, (show _ = o.2.1.toInt64 from rfl).trans (show o.2.1.toInt64 = o'.1.toInt64 by rw [m3]), ⟨⟨_, Rel_eq R (rZ_eqA rfl rfl _ (rZ_f rfl rfl rfl rfl rfl rfl rfl rfl rfl rfl rfl)) hr⟩, (by rw [(ap_Ash _ h).1]; omega)⟩⟩
    · exact absurd (hk.symm.trans m1) (by decide)
  · rintro E h1 ⟨hk, rfl, rfl⟩
    rcases hm with ⟨m1, m2, m3⟩ | ⟨m1, m2⟩
    · exact absurd m1 hk
    · refine ⟨o'.1, 1, _, rZ_LSa hL, ⟨by rw [m1]; rfl, rfl⟩, ⟨_, c_X11_canon l u (k_pl piM shM _) rfl (k_plI (p := 70) rfl rfl) (k_plI (p := 70) rfl rfl) (k_plI (p := 70) rfl rfl) (k_plA (p := 71) rfl rfl) (k_plA (p := 77) rfl rfl) e2, rfl, rfl, m2⟩, ⟨⟨_, Rel_eq R (rZ_eqB rfl rfl (rZ_f rfl rfl rfl rfl rfl rfl rfl rfl rfl rfl rfl)) hr⟩, (by rw [(ap_Bsh h).1]; omega)⟩⟩
set_option maxRecDepth 40000 in
theorem T_26 {l : Launch} (hT : l.stackTraces = false) {u : Nat} {S : aT} {h : k_H} (R : Rel S h) {a1 a2 a3 a4 a5 : Int32} (N : N_26 u h a1 a2 a3) : q_26 l h a1 a2 a3 a4 a5 (nxt h) := by
  obtain ⟨o, o', e1, e2, hm, hr⟩ := N
  obtain ⟨rest, hsh⟩ := rZ_CX R.1
  have hL := rZ_CLS R.1
  refine ⟨1, 6, _, _, by decide, by decide, c_X10_owners l u hT h hsh  rfl rfl rfl rfl rfl rfl e1, ?_, ?_⟩
  · rintro v h1 ⟨hk, rfl, rfl⟩
    rcases hm with ⟨m1, m2, m3⟩ | ⟨m1, m2⟩
    · refine ⟨o.2.1, o'.1, _, rfl, rZ_LSa hL, ⟨_, c_X11_owners l u (k_pl piM shM _) rfl (k_plI (p := 70) rfl rfl) (k_plA (p := 71) rfl rfl) (k_plA (p := 79) rfl rfl) e2, rfl, rfl, m2⟩, (show _ = o.2.1.toInt64 from rfl).trans (show o.2.1.toInt64 = o'.1.toInt64 by rw [m3]), ⟨⟨_, Rel_eq R (rZ_eqA rfl rfl _ (rZ_f rfl rfl rfl rfl rfl rfl rfl rfl rfl rfl rfl)) hr⟩, (by rw [(ap_Ash _ h).1]; omega)⟩⟩
    · exact absurd (hk.symm.trans m1) (by decide)
  · rintro E h1 ⟨hk, rfl, rfl⟩
    rcases hm with ⟨m1, m2, m3⟩ | ⟨m1, m2⟩
    · exact absurd m1 hk
    · refine ⟨o'.1, 1, _, rZ_LSa hL, ⟨by rw [m1]; rfl, rfl⟩, ⟨_, c_X11_owners l u (k_pl piM shM _) rfl (k_plI (p := 70) rfl rfl) (k_plA (p := 71) rfl rfl) (k_plA (p := 79) rfl rfl) e2, rfl, rfl, m2⟩, ⟨⟨_, Rel_eq R (rZ_eqB rfl rfl (rZ_f rfl rfl rfl rfl rfl rfl rfl rfl rfl rfl rfl)) hr⟩, (by rw [(ap_Bsh h).1]; omega)⟩⟩
set_option maxRecDepth 40000 in
theorem T_27 {l : Launch} (hT : l.stackTraces = false) {u : Nat} {S : aT} {h : k_H} (R : Rel S h) {a1 a2 a3 a4 a5 : Int32} (N : N_27 u h a1 a2) : q_27 l h a1 a2 a3 a4 a5 (nxt h) := by
  obtain ⟨o, o', e1, e2, hm, hr⟩ := N
  obtain ⟨rest, hsh⟩ := rZ_CX R.1
  have hL := rZ_CLS R.1
  refine ⟨1, 6, _, _, by decide, by decide, c_X10_face l u hT h hsh  rfl rfl rfl rfl rfl e1, ?_, ?_⟩
  · rintro v h1 ⟨hk, rfl, rfl⟩
    rcases hm with ⟨m1, m2, m3⟩ | ⟨m1, m2⟩
    · refine ⟨o.2.1, o'.1, _, rfl, rZ_LSa hL, ⟨_, c_X11_face l u (k_pl piM shM _) rfl (k_plI (p := 70) rfl rfl) (k_plI (p := 70) rfl rfl) (k_plI (p := 70) rfl rfl) (k_plA (p := 71) rfl rfl) (k_plA (p := 77) rfl rfl) (k_plA (p := 90) rfl rfl) e2, rfl, rfl, m2⟩, (show _ = o.2.1.toInt64 from rfl).trans (show o.2.1.toInt64 = o'.1.toInt64 by rw [m3]), ⟨⟨_, Rel_eq R (rZ_eqA rfl rfl _ (rZ_f rfl rfl rfl rfl rfl rfl rfl rfl rfl rfl rfl)) hr⟩, (by rw [(ap_Ash _ h).1]; omega)⟩⟩
    · exact absurd (hk.symm.trans m1) (by decide)
  · rintro E h1 ⟨hk, rfl, rfl⟩
    rcases hm with ⟨m1, m2, m3⟩ | ⟨m1, m2⟩
    · exact absurd m1 hk
    · refine ⟨o'.1, 1, _, rZ_LSa hL, ⟨by rw [m1]; rfl, rfl⟩, ⟨_, c_X11_face l u (k_pl piM shM _) rfl (k_plI (p := 70) rfl rfl) (k_plI (p := 70) rfl rfl) (k_plI (p := 70) rfl rfl) (k_plA (p := 71) rfl rfl) (k_plA (p := 77) rfl rfl) (k_plA (p := 90) rfl rfl) e2, rfl, rfl, m2⟩, ⟨⟨_, Rel_eq R (rZ_eqB rfl rfl (rZ_f rfl rfl rfl rfl rfl rfl rfl rfl rfl rfl rfl)) hr⟩, (by rw [(ap_Bsh h).1]; omega)⟩⟩
set_option maxRecDepth 40000 in
theorem T_28 {l : Launch} (hT : l.stackTraces = false) {u : Nat} {S : aT} {h : k_H} (R : Rel S h) {a1 a2 a3 a4 a5 : Int32} (N : N_28 u h ) : q_28 l h a1 a2 a3 a4 a5 (nxt h) := by
  obtain ⟨o, o', e1, e2, hm⟩ := N
  obtain ⟨rest, hsh⟩ := rZ_CX R.1
  have hL := rZ_CLS R.1
  subst hm
  refine ⟨o'.1, _, [], _, c_X10_level l u h hsh rfl rfl rfl rfl rfl e1, ⟨_, c_X11_level l u (k_pl piM shM _) rfl (k_plI (p := 70) rfl rfl) (k_plI (p := 70) rfl rfl) (k_plI (p := 70) rfl rfl) (k_plA (p := 78) rfl rfl) (k_plA (p := 90) rfl rfl) (k_plA (p := 91) rfl rfl) e2, rfl, rfl, rfl⟩, ⟨⟨_, Rel_eq R (rZ_eqB (us := []) rfl rfl (rZ_f rfl rfl rfl rfl rfl rfl rfl rfl rfl rfl rfl)) R.2.2.2.2.2.2.1.1⟩, (by rw [(ap_Bsh h).1]; omega)⟩⟩
set_option maxRecDepth 40000 in
theorem T_29 {l : Launch} (hT : l.stackTraces = false) {u : Nat} {S : aT} {h : k_H} (R : Rel S h) {a1 a2 a3 a4 a5 : Int32} (N : N_29 u h ) : q_29 l h a1 a2 a3 a4 a5 (nxt h) := by
  obtain ⟨o, o', e1, e2, hm⟩ := N
  obtain ⟨rest, hsh⟩ := rZ_CX R.1
  have hL := rZ_CLS R.1
  subst hm
  refine ⟨o'.1, _, [], _, c_X10_pick l u h hsh rfl rfl rfl rfl rfl rfl rfl rfl e1, ⟨_, c_X11_pick l u (k_pl piM shM _) rfl (k_plI (p := 70) rfl rfl) (k_plI (p := 70) rfl rfl) (k_plI (p := 70) rfl rfl) (k_plI (p := 70) rfl rfl) (k_plA (p := 77) rfl rfl) (k_plA (p := 78) rfl rfl) (k_plA (p := 90) rfl rfl) (k_plA (p := 91) rfl rfl) e2, rfl, rfl, rfl⟩, ⟨⟨_, Rel_eq R (rZ_eqB (us := []) rfl rfl (rZ_f rfl rfl rfl rfl rfl rfl rfl rfl rfl rfl rfl)) R.2.2.2.2.2.2.1.1⟩, (by rw [(ap_Bsh h).1]; omega)⟩⟩
set_option maxRecDepth 40000 in
theorem T_30 {l : Launch} (hT : l.stackTraces = false) {u : Nat} {S : aT} {h : k_H} (R : Rel S h) {a1 a2 a3 a4 a5 : Int32} (N : N_30 u h a1 a2 a3 a4) : q_30 l h a1 a2 a3 a4 a5 (nxt h) := by
  obtain ⟨o, o', e1, e2, hm, hr⟩ := N
  obtain ⟨rest, hsh⟩ := rZ_CX R.1
  have hL := rZ_CLS R.1
  refine ⟨1, 6, _, _, by decide, by decide, c_X10_decade l u hT h hsh  rfl rfl rfl rfl rfl rfl rfl rfl rfl rfl rfl rfl rfl rfl rfl rfl rfl rfl rfl rfl rfl rfl rfl rfl rfl rfl rfl rfl rfl rfl rfl rfl rfl rfl rfl rfl rfl rfl rfl rfl rfl rfl rfl rfl rfl rfl rfl rfl rfl rfl rfl e1, ?_, ?_⟩
  · rintro v h1 ⟨hk, rfl, rfl⟩
    rcases hm with ⟨m1, m2, m3⟩ | ⟨m1, m2⟩
    · refine ⟨o.2.1, o'.1, _, rfl, rZ_LSa hL, ⟨_, c_X11_decade l u (k_pl piM shM _) rfl (k_plI (p := 70) rfl rfl) (k_plI (p := 70) rfl rfl) (k_plI (p := 70) rfl rfl) (k_plI (p := 70) rfl rfl) (k_plI (p := 70) rfl rfl) (k_plI (p := 70) rfl rfl) (k_plI (p := 70) rfl rfl) (k_plI (p := 70) rfl rfl) (k_plA (p := 71) rfl rfl) (k_plA (p := 77) rfl rfl) (k_plA (p := 78) rfl rfl) (k_plA (p := 79) rfl rfl) (k_plA (p := 80) rfl rfl) (k_plA (p := 83) rfl rfl) (k_plA (p := 84) rfl rfl) (k_plA (p := 85) rfl rfl) (k_plA (p := 86) rfl rfl) (k_plA (p := 87) rfl rfl) (k_plA (p := 90) rfl rfl) (k_plA (p := 91) rfl rfl) (k_plA (p := 93) rfl rfl) (k_plA (p := 94) rfl rfl) e2, rfl, rfl, m2⟩, (show _ = o.2.1.toInt64 from rfl).trans (show o.2.1.toInt64 = o'.1.toInt64 by rw [m3]), ⟨⟨_, Rel_eq R (rZ_eqA rfl rfl _ (rZ_f rfl rfl rfl rfl rfl rfl rfl rfl rfl rfl rfl)) hr⟩, (by rw [(ap_Ash _ h).1]; omega)⟩⟩
    · exact absurd (hk.symm.trans m1) (by decide)
  · rintro E h1 ⟨hk, rfl, rfl⟩
    rcases hm with ⟨m1, m2, m3⟩ | ⟨m1, m2⟩
    · exact absurd m1 hk
    · refine ⟨o'.1, 1, _, rZ_LSa hL, ⟨by rw [m1]; rfl, rfl⟩, ⟨_, c_X11_decade l u (k_pl piM shM _) rfl (k_plI (p := 70) rfl rfl) (k_plI (p := 70) rfl rfl) (k_plI (p := 70) rfl rfl) (k_plI (p := 70) rfl rfl) (k_plI (p := 70) rfl rfl) (k_plI (p := 70) rfl rfl) (k_plI (p := 70) rfl rfl) (k_plI (p := 70) rfl rfl) (k_plA (p := 71) rfl rfl) (k_plA (p := 77) rfl rfl) (k_plA (p := 78) rfl rfl) (k_plA (p := 79) rfl rfl) (k_plA (p := 80) rfl rfl) (k_plA (p := 83) rfl rfl) (k_plA (p := 84) rfl rfl) (k_plA (p := 85) rfl rfl) (k_plA (p := 86) rfl rfl) (k_plA (p := 87) rfl rfl) (k_plA (p := 90) rfl rfl) (k_plA (p := 91) rfl rfl) (k_plA (p := 93) rfl rfl) (k_plA (p := 94) rfl rfl) e2, rfl, rfl, m2⟩, ⟨⟨_, Rel_eq R (rZ_eqB rfl rfl (rZ_f rfl rfl rfl rfl rfl rfl rfl rfl rfl rfl rfl)) hr⟩, (by rw [(ap_Bsh h).1]; omega)⟩⟩
set_option maxRecDepth 40000 in
theorem T_31 {l : Launch} (hT : l.stackTraces = false) {u : Nat} {S : aT} {h : k_H} (R : Rel S h) {a1 a2 a3 a4 a5 : Int32} (N : N_31 u h a1 a2 a3 a4 a5) : q_31 l h a1 a2 a3 a4 a5 (nxt h) := by
  obtain ⟨o, o', e1, e2, hm, hr⟩ := N
  obtain ⟨rest, hsh⟩ := rZ_CX R.1
  have hL := rZ_CLS R.1
  refine ⟨1, 6, _, _, by decide, by decide, c_X10_span l u hT h hsh  rfl rfl rfl rfl rfl rfl rfl rfl rfl rfl rfl rfl rfl rfl rfl rfl rfl rfl rfl rfl rfl rfl rfl rfl rfl rfl rfl rfl rfl rfl rfl rfl rfl rfl rfl rfl rfl rfl rfl rfl rfl rfl rfl rfl rfl rfl rfl rfl rfl rfl rfl e1, ?_, ?_⟩
  · rintro v h1 ⟨hk, rfl, rfl⟩
    rcases hm with ⟨m1, m2, m3⟩ | ⟨m1, m2⟩
    · refine ⟨o.2.1, o'.1, _, rfl, rZ_LSa hL, ⟨_, c_X11_span l u (k_pl piM shM _) rfl (k_plI (p := 70) rfl rfl) (k_plI (p := 70) rfl rfl) (k_plI (p := 70) rfl rfl) (k_plI (p := 70) rfl rfl) (k_plI (p := 70) rfl rfl) (k_plI (p := 70) rfl rfl) (k_plI (p := 70) rfl rfl) (k_plI (p := 70) rfl rfl) (k_plA (p := 71) rfl rfl) (k_plA (p := 77) rfl rfl) (k_plA (p := 78) rfl rfl) (k_plA (p := 79) rfl rfl) (k_plA (p := 80) rfl rfl) (k_plA (p := 83) rfl rfl) (k_plA (p := 84) rfl rfl) (k_plA (p := 85) rfl rfl) (k_plA (p := 86) rfl rfl) (k_plA (p := 87) rfl rfl) (k_plA (p := 90) rfl rfl) (k_plA (p := 91) rfl rfl) (k_plA (p := 93) rfl rfl) (k_plA (p := 94) rfl rfl) e2, rfl, rfl, m2⟩, (show _ = o.2.1.toInt64 from rfl).trans (show o.2.1.toInt64 = o'.1.toInt64 by rw [m3]), ⟨⟨_, Rel_eq R (rZ_eqA rfl rfl _ (rZ_f rfl rfl rfl rfl rfl rfl rfl rfl rfl rfl rfl)) hr⟩, (by rw [(ap_Ash _ h).1]; omega)⟩⟩
    · exact absurd (hk.symm.trans m1) (by decide)
  · rintro E h1 ⟨hk, rfl, rfl⟩
    rcases hm with ⟨m1, m2, m3⟩ | ⟨m1, m2⟩
    · exact absurd m1 hk
    · refine ⟨o'.1, 1, _, rZ_LSa hL, ⟨by rw [m1]; rfl, rfl⟩, ⟨_, c_X11_span l u (k_pl piM shM _) rfl (k_plI (p := 70) rfl rfl) (k_plI (p := 70) rfl rfl) (k_plI (p := 70) rfl rfl) (k_plI (p := 70) rfl rfl) (k_plI (p := 70) rfl rfl) (k_plI (p := 70) rfl rfl) (k_plI (p := 70) rfl rfl) (k_plI (p := 70) rfl rfl) (k_plA (p := 71) rfl rfl) (k_plA (p := 77) rfl rfl) (k_plA (p := 78) rfl rfl) (k_plA (p := 79) rfl rfl) (k_plA (p := 80) rfl rfl) (k_plA (p := 83) rfl rfl) (k_plA (p := 84) rfl rfl) (k_plA (p := 85) rfl rfl) (k_plA (p := 86) rfl rfl) (k_plA (p := 87) rfl rfl) (k_plA (p := 90) rfl rfl) (k_plA (p := 91) rfl rfl) (k_plA (p := 93) rfl rfl) (k_plA (p := 94) rfl rfl) e2, rfl, rfl, m2⟩, ⟨⟨_, Rel_eq R (rZ_eqB rfl rfl (rZ_f rfl rfl rfl rfl rfl rfl rfl rfl rfl rfl rfl)) hr⟩, (by rw [(ap_Bsh h).1]; omega)⟩⟩
set_option maxRecDepth 40000 in
theorem T_32 {l : Launch} (hT : l.stackTraces = false) {u : Nat} {S : aT} {h : k_H} (R : Rel S h) {a1 a2 a3 a4 a5 : Int32} (N : N_32 u h a1) : q_32 l h a1 a2 a3 a4 a5 (nxt h) := by
  obtain ⟨o, o', e1, e2, hm, hr⟩ := N
  obtain ⟨rest, hsh⟩ := rZ_CX R.1
  have hL := rZ_CLS R.1
  refine ⟨1, 6, _, _, by decide, by decide, c_X10_sums l u hT h hsh  rfl rfl rfl rfl rfl rfl rfl e1, ?_, ?_⟩
  · rintro v h1 ⟨hk, rfl, rfl⟩
    rcases hm with ⟨m1, m2, m3⟩ | ⟨m1, m2⟩
    · refine ⟨o.2.1, o'.1, _, rfl, rZ_LSa hL, ⟨_, c_X11_sums l u (k_pl piM shM _) rfl (k_plI (p := 70) rfl rfl) (k_plI (p := 70) rfl rfl) (k_plI (p := 70) rfl rfl) (k_plI (p := 70) rfl rfl) (k_plA (p := 71) rfl rfl) (k_plA (p := 90) rfl rfl) (k_plA (p := 91) rfl rfl) e2, rfl, rfl, m2⟩, (show _ = o.2.1.toInt64 from rfl).trans (show o.2.1.toInt64 = o'.1.toInt64 by rw [m3]), ⟨⟨_, Rel_eq R (rZ_eqA rfl rfl _ (rZ_f rfl rfl rfl rfl rfl rfl rfl rfl rfl rfl rfl)) hr⟩, (by rw [(ap_Ash _ h).1]; omega)⟩⟩
    · exact absurd (hk.symm.trans m1) (by decide)
  · rintro E h1 ⟨hk, rfl, rfl⟩
    rcases hm with ⟨m1, m2, m3⟩ | ⟨m1, m2⟩
    · exact absurd m1 hk
    · refine ⟨o'.1, 1, _, rZ_LSa hL, ⟨by rw [m1]; rfl, rfl⟩, ⟨_, c_X11_sums l u (k_pl piM shM _) rfl (k_plI (p := 70) rfl rfl) (k_plI (p := 70) rfl rfl) (k_plI (p := 70) rfl rfl) (k_plI (p := 70) rfl rfl) (k_plA (p := 71) rfl rfl) (k_plA (p := 90) rfl rfl) (k_plA (p := 91) rfl rfl) e2, rfl, rfl, m2⟩, ⟨⟨_, Rel_eq R (rZ_eqB rfl rfl (rZ_f rfl rfl rfl rfl rfl rfl rfl rfl rfl rfl rfl)) hr⟩, (by rw [(ap_Bsh h).1]; omega)⟩⟩
set_option maxRecDepth 40000 in
theorem T_33 {l : Launch} (hT : l.stackTraces = false) {u : Nat} {S : aT} {h : k_H} (R : Rel S h) {a1 a2 a3 a4 a5 : Int32} (N : N_33 u h a1) : q_33 l h a1 a2 a3 a4 a5 (nxt h) := by
  obtain ⟨o, o', e1, e2, hm, hr⟩ := N
  obtain ⟨rest, hsh⟩ := rZ_CX R.1
  have hL := rZ_CLS R.1
  refine ⟨1, 6, _, _, by decide, by decide, c_X10_open l u hT h hsh  rfl rfl rfl rfl e1, ?_, ?_⟩
  · rintro v h1 ⟨hk, rfl, rfl⟩
    rcases hm with ⟨m1, m2, m3⟩ | ⟨m1, m2⟩
    · refine ⟨o.2.1, o'.1, _, rfl, rZ_LSa hL, ⟨_, c_X11_open l u (k_pl piM shM _) rfl (k_plI (p := 70) rfl rfl) (k_plI (p := 70) rfl rfl) (k_plI (p := 70) rfl rfl) (k_plA (p := 71) rfl rfl) (k_plA (p := 90) rfl rfl) (k_plA (p := 91) rfl rfl) e2, rfl, rfl, m2⟩, (show _ = o.2.1.toInt64 from rfl).trans (show o.2.1.toInt64 = o'.1.toInt64 by rw [m3]), ⟨⟨_, Rel_eq R (rZ_eqA rfl rfl _ (rZ_f rfl rfl rfl rfl rfl rfl rfl rfl rfl rfl rfl)) hr⟩, (by rw [(ap_Ash _ h).1]; omega)⟩⟩
    · exact absurd (hk.symm.trans m1) (by decide)
  · rintro E h1 ⟨hk, rfl, rfl⟩
    rcases hm with ⟨m1, m2, m3⟩ | ⟨m1, m2⟩
    · exact absurd m1 hk
    · refine ⟨o'.1, 1, _, rZ_LSa hL, ⟨by rw [m1]; rfl, rfl⟩, ⟨_, c_X11_open l u (k_pl piM shM _) rfl (k_plI (p := 70) rfl rfl) (k_plI (p := 70) rfl rfl) (k_plI (p := 70) rfl rfl) (k_plA (p := 71) rfl rfl) (k_plA (p := 90) rfl rfl) (k_plA (p := 91) rfl rfl) e2, rfl, rfl, m2⟩, ⟨⟨_, Rel_eq R (rZ_eqB rfl rfl (rZ_f rfl rfl rfl rfl rfl rfl rfl rfl rfl rfl rfl)) hr⟩, (by rw [(ap_Bsh h).1]; omega)⟩⟩
set_option maxRecDepth 40000 in
theorem T_36 {l : Launch} (hT : l.stackTraces = false) {u : Nat} {S : aT} {h : k_H} (R : Rel S h) {a1 a2 a3 a4 a5 : Int32} (N : N_36 u h a1) : q_36 l h a1 a2 a3 a4 a5 (nxt h) := by
  obtain ⟨o, o', e1, e2, hm⟩ := N
  obtain ⟨rest, hsh⟩ := rZ_CX R.1
  have hL := rZ_CLS R.1
  subst hm
  refine ⟨o'.1, _, [], _, c_X10_status l u h hsh rfl e1, ⟨_, c_X11_status l u (k_pl piM shM _) rfl (k_plI (p := 70) rfl rfl) (k_plA (p := 71) rfl rfl) e2, rfl, rfl, rfl⟩, ⟨⟨_, Rel_eq R (rZ_eqB (us := []) rfl rfl (rZ_f rfl rfl rfl rfl rfl rfl rfl rfl rfl rfl rfl)) R.2.2.2.2.2.2.1.1⟩, (by rw [(ap_Bsh h).1]; omega)⟩⟩
set_option maxRecDepth 40000 in
theorem T_37 {l : Launch} (hT : l.stackTraces = false) {u : Nat} {S : aT} {h : k_H} (R : Rel S h) {a1 a2 a3 a4 a5 : Int32} (N : N_37 u h a1) : q_37 l h a1 a2 a3 a4 a5 (nxt h) := by
  obtain ⟨o, o', e1, e2, hm⟩ := N
  obtain ⟨rest, hsh⟩ := rZ_CX R.1
  have hL := rZ_CLS R.1
  subst hm
  refine ⟨o'.1, _, [], _, c_X10_count l u h hsh rfl rfl rfl e1, ⟨_, c_X11_count l u (k_pl piM shM _) rfl (k_plI (p := 70) rfl rfl) (k_plI (p := 70) rfl rfl) (k_plI (p := 70) rfl rfl) (k_plI (p := 70) rfl rfl) e2, rfl, rfl, rfl⟩, ⟨⟨_, Rel_eq R (rZ_eqB (us := []) rfl rfl (rZ_f rfl rfl rfl rfl rfl rfl rfl rfl rfl rfl rfl)) R.2.2.2.2.2.2.1.1⟩, (by rw [(ap_Bsh h).1]; omega)⟩⟩
