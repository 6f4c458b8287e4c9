/-! THE CALLS AT THE LAW'S LEVEL: what the numbers must say of each query, and that it is enough -/
theorem rZ_f {g g' : Nat → Int32} (h0 : g' 2 = g 2) (h1 : g' 8 = g 8) (h2 : g' 25 = g 25) (h3 : g' 26 = g 26) (h4 : g' 27 = g 27) (h5 : g' 28 = g 28) (h6 : g' 30 = g 30) (h7 : g' 42 = g 42) (h8 : g' 43 = g 43) (h9 : g' 54 = g 54) (h10 : g' 65 = g 65) : ∀ k, k ∈ rZ_fl → g' k = g k := by
  intro k hk
  unfold rZ_fl at hk
  simp only [List.mem_cons, List.not_mem_nil, or_false] at hk
  rcases hk with rfl | rfl | rfl | rfl | rfl | rfl | rfl | rfl | rfl | rfl | rfl <;> assumption
theorem rZ_LSa {us : List k_U} {h : k_H} (z : k_LS h) : k_LS (k_ap us h) := by
  unfold k_LS
  rw [k_ap_sh]
  exact z
def N_5 (u : Nat) (h : k_H)  : Prop := ∃ o o', f_X10_fault u (h.2.1 1 6) = some o ∧ f_X11_fault u (h.2.1 70 0) (h.2.1 70 8) = some o' ∧ o = o'.1
set_option maxRecDepth 40000 in
theorem Q_5 {l : Launch} (hT : l.stackTraces = false) {u : Nat} {S : aT} {h : k_H} (R : Rel S h) {a1 a2 a3 a4 a5 : Int32} (N : N_5 u h ) : q_5 l h a1 a2 a3 a4 a5 (Rel S) := by
  obtain ⟨o, o', e1, e2, hm⟩ := N
  obtain ⟨rest, hsh⟩ := rZ_CX R.1
  have hL := rZ_CLS R.1
  subst hm
  refine ⟨o'.1, _, [], _, c_X10_fault l u h hsh rfl e1, ⟨_, c_X11_fault l u (k_pl piM shM _) rfl (k_plI (p := 70) rfl rfl) (k_plI (p := 70) rfl rfl) e2, rfl, rfl, rfl⟩, Rel_eq R (rZ_eqB (us := []) rfl rfl (rZ_f rfl rfl rfl rfl rfl rfl rfl rfl rfl rfl rfl)) R.2.2.2.2.2.2.1.1⟩
def N_7 (u : Nat) (h : k_H) (a1 : Int32) : Prop := ∃ o o', f_X10_told u (h.2.1 0 14) (h.2.1 3 0) (h.2.1 3 1) (h.2.1 3 8) (h.2.1 3 10) (h.2.1 26 10) (h.2.1 26 11) (h.2.1 26 12) (h.2.1 26 13) (h.2.1 26 14) (h.2.1 26 15) (h.2.1 58 3) (h.2.1 69) a1 = some o ∧ f_X11_told u (h.2.1 70 0) (h.2.1 70 25) (h.2.1 70 26) (h.2.1 70 28) (h.2.1 70 30) (h.2.1 70 43) (h.2.1 70 54) (h.2.1 71) (h.2.1 90) a1 = some o' ∧ ((o.1 = 0 ∧ o'.2.1 = 0 ∧ o.2.1 = o'.1) ∨ (o.1 = 3 ∧ o'.2.1 = 1)) ∧ ∀ k, k < 3 → o.2.2 k = o'.2.2 k
set_option maxRecDepth 40000 in
theorem Q_7 {l : Launch} (hT : l.stackTraces = false) {u : Nat} {S : aT} {h : k_H} (R : Rel S h) {a1 a2 a3 a4 a5 : Int32} (N : N_7 u h a1) : q_7 l h a1 a2 a3 a4 a5 (Rel S) := by
  obtain ⟨o, o', e1, e2, hm, hr⟩ := N
  obtain ⟨rest, hsh⟩ := rZ_CX R.1
  have hL := rZ_CLS R.1
  refine ⟨1, 6, _, _, by decide, by decide, c_X10_told l u hT h hsh  rfl rfl rfl rfl rfl rfl rfl rfl rfl rfl rfl rfl rfl e1, ?_, ?_⟩
  · rintro v h1 ⟨hk, rfl, rfl⟩
    rcases hm with ⟨m1, m2, m3⟩ | ⟨m1, m2⟩
    · refine ⟨o.2.1, o'.1, _, rfl, rZ_LSa hL, ⟨_, c_X11_told l u (k_pl piM shM _) rfl (k_plI (p := 70) rfl rfl) (k_plI (p := 70) rfl rfl) (k_plI (p := 70) rfl rfl) (k_plI (p := 70) rfl rfl) (k_plI (p := 70) rfl rfl) (k_plI (p := 70) rfl rfl) (k_plI (p := 70) rfl rfl) (k_plA (p := 71) rfl rfl) (k_plA (p := 90) rfl rfl) e2, rfl, rfl, m2⟩, (show _ = o.2.1.toInt64 from rfl).trans (show o.2.1.toInt64 = o'.1.toInt64 by rw [m3]), Rel_eq R (rZ_eqA rfl rfl _ (rZ_f rfl rfl rfl rfl rfl rfl rfl rfl rfl rfl rfl)) hr⟩
    · exact absurd (hk.symm.trans m1) (by decide)
  · rintro E h1 ⟨hk, rfl, rfl⟩
    rcases hm with ⟨m1, m2, m3⟩ | ⟨m1, m2⟩
    · exact absurd m1 hk
    · refine ⟨o'.1, 1, _, rZ_LSa hL, ⟨by rw [m1]; rfl, rfl⟩, ⟨_, c_X11_told l u (k_pl piM shM _) rfl (k_plI (p := 70) rfl rfl) (k_plI (p := 70) rfl rfl) (k_plI (p := 70) rfl rfl) (k_plI (p := 70) rfl rfl) (k_plI (p := 70) rfl rfl) (k_plI (p := 70) rfl rfl) (k_plI (p := 70) rfl rfl) (k_plA (p := 71) rfl rfl) (k_plA (p := 90) rfl rfl) e2, rfl, rfl, m2⟩, Rel_eq R (rZ_eqB rfl rfl (rZ_f rfl rfl rfl rfl rfl rfl rfl rfl rfl rfl rfl)) hr⟩
def N_8 (u : Nat) (h : k_H) (a1 : Int32) (a2 : Int32) (a3 : Int32) : Prop := ∃ o o', f_X10_cell u (h.2.1 3 0) (h.2.1 3 1) (h.2.1 4) (h.2.1 5) (h.2.2.1 26 3) (h.2.2.1 26 4) (h.2.2.1 26 5) (h.2.1 69) a1 a2 a3 = some o ∧ f_X11_cell u (h.2.1 70 0) (h.2.1 70 25) (h.2.1 70 26) (h.2.1 71) (h.2.1 77) (h.2.1 78) (h.2.1 90) (h.2.1 91) a1 a2 a3 = some o' ∧ ((o.1 = 0 ∧ o'.2.1 = 0 ∧ o.2.1 = o'.1) ∨ (o.1 = 1 ∧ o'.2.1 = 1) ∨ (o.1 = 3 ∧ o'.2.1 = 2)) ∧ ∀ k, k < 3 → o.2.2 k = o'.2.2.1 k
set_option maxRecDepth 40000 in
theorem Q_8 {l : Launch} (hT : l.stackTraces = false) {u : Nat} {S : aT} {h : k_H} (R : Rel S h) {a1 a2 a3 a4 a5 : Int32} (N : N_8 u h a1 a2 a3) : q_8 l h a1 a2 a3 a4 a5 (Rel S) := by
  obtain ⟨o, o', e1, e2, hm, hr⟩ := N
  obtain ⟨rest, hsh⟩ := rZ_CX R.1
  have hL := rZ_CLS R.1
  refine ⟨2, 12, _, _, by decide, by decide, c_X10_cell l u hT h hsh  rfl rfl rfl rfl rfl rfl rfl rfl e1, ?_, ?_⟩
  · rintro v h1 ⟨hk, rfl, rfl⟩
    rcases hm with ⟨m1, m2, m3⟩ | ⟨m1, m2⟩ | ⟨m1, m2⟩
    · refine ⟨o.2.1, o'.1, _, rfl, rZ_LSa hL, ⟨_, c_X11_cell l u (k_pl piM shM _) rfl (k_plI (p := 70) rfl rfl) (k_plI (p := 70) rfl rfl) (k_plI (p := 70) rfl rfl) (k_plA (p := 71) rfl rfl) (k_plA (p := 77) rfl rfl) (k_plA (p := 78) rfl rfl) (k_plA (p := 90) rfl rfl) (k_plA (p := 91) rfl rfl) e2, rfl, rfl, m2⟩, (show _ = o.2.1.toInt64 from rfl).trans (show o.2.1.toInt64 = o'.1.toInt64 by rw [m3]), Rel_eq R (rZ_eqA rfl rfl _ (rZ_f rfl rfl rfl rfl rfl rfl rfl rfl rfl rfl rfl)) hr⟩
    · exact absurd (hk.symm.trans m1) (by decide)
    · exact absurd (hk.symm.trans m1) (by decide)
  · rintro E h1 ⟨hk, rfl, rfl⟩
    rcases hm with ⟨m1, m2, m3⟩ | ⟨m1, m2⟩ | ⟨m1, m2⟩
    · exact absurd m1 hk
    · refine ⟨o'.1, 1, _, rZ_LSa hL, Or.inl ⟨by rw [m1]; rfl, rfl⟩, ⟨_, c_X11_cell l u (k_pl piM shM _) rfl (k_plI (p := 70) rfl rfl) (k_plI (p := 70) rfl rfl) (k_plI (p := 70) rfl rfl) (k_plA (p := 71) rfl rfl) (k_plA (p := 77) rfl rfl) (k_plA (p := 78) rfl rfl) (k_plA (p := 90) rfl rfl) (k_plA (p := 91) rfl rfl) e2, rfl, rfl, m2⟩, Rel_eq R (rZ_eqB rfl rfl (rZ_f rfl rfl rfl rfl rfl rfl rfl rfl rfl rfl rfl)) hr⟩
    · refine ⟨o'.1, 2, _, rZ_LSa hL, Or.inr ⟨by rw [m1]; rfl, rfl⟩, ⟨_, c_X11_cell l u (k_pl piM shM _) rfl (k_plI (p := 70) rfl rfl) (k_plI (p := 70) rfl rfl) (k_plI (p := 70) rfl rfl) (k_plA (p := 71) rfl rfl) (k_plA (p := 77) rfl rfl) (k_plA (p := 78) rfl rfl) (k_plA (p := 90) rfl rfl) (k_plA (p := 91) rfl rfl) e2, rfl, rfl, m2⟩, Rel_eq R (rZ_eqB rfl rfl (rZ_f rfl rfl rfl rfl rfl rfl rfl rfl rfl rfl rfl)) hr⟩
def N_9 (u : Nat) (h : k_H) (a1 : Int32) (a2 : Int32) : Prop := ∃ o o', f_X10_kind u (h.2.1 4) (h.2.1 5) (h.2.1 6) (h.2.2.1 26 3) (h.2.2.1 26 4) (h.2.2.1 26 5) (h.2.1 27) (h.2.1 28) (h.2.1 29) (h.2.1 69) a1 a2 = some o ∧ f_X11_kind u (h.2.1 70 0) (h.2.1 71) (h.2.1 77) (h.2.1 78) (h.2.1 79) (h.2.1 90) a1 a2 = some o' ∧ ((o.1 = 0 ∧ o'.2.1 = 0 ∧ o.2.1 = o'.1) ∨ (o.1 = 3 ∧ o'.2.1 = 1)) ∧ ∀ k, k < 3 → o.2.2 k = o'.2.2 k
set_option maxRecDepth 40000 in
theorem Q_9 {l : Launch} (hT : l.stackTraces = false) {u : Nat} {S : aT} {h : k_H} (R : Rel S h) {a1 a2 a3 a4 a5 : Int32} (N : N_9 u h a1 a2) : q_9 l h a1 a2 a3 a4 a5 (Rel S) := by
  obtain ⟨o, o', e1, e2, hm, hr⟩ := N
  obtain ⟨rest, hsh⟩ := rZ_CX R.1
  have hL := rZ_CLS R.1
  refine ⟨1, 6, _, _, by decide, by decide, c_X10_kind l u hT h hsh  rfl rfl rfl rfl rfl rfl rfl rfl rfl rfl e1, ?_, ?_⟩
  · rintro v h1 ⟨hk, rfl, rfl⟩
    rcases hm with ⟨m1, m2, m3⟩ | ⟨m1, m2⟩
    · refine ⟨o.2.1, o'.1, _, rfl, rZ_LSa hL, ⟨_, c_X11_kind l u (k_pl piM shM _) rfl (k_plI (p := 70) rfl rfl) (k_plA (p := 71) rfl rfl) (k_plA (p := 77) rfl rfl) (k_plA (p := 78) rfl rfl) (k_plA (p := 79) rfl rfl) (k_plA (p := 90) rfl rfl) e2, rfl, rfl, m2⟩, (show _ = o.2.1.toInt64 from rfl).trans (show o.2.1.toInt64 = o'.1.toInt64 by rw [m3]), Rel_eq R (rZ_eqA rfl rfl _ (rZ_f rfl rfl rfl rfl rfl rfl rfl rfl rfl rfl rfl)) hr⟩
    · exact absurd (hk.symm.trans m1) (by decide)
  · rintro E h1 ⟨hk, rfl, rfl⟩
    rcases hm with ⟨m1, m2, m3⟩ | ⟨m1, m2⟩
    · exact absurd m1 hk
    · refine ⟨o'.1, 1, _, rZ_LSa hL, ⟨by rw [m1]; rfl, rfl⟩, ⟨_, c_X11_kind l u (k_pl piM shM _) rfl (k_plI (p := 70) rfl rfl) (k_plA (p := 71) rfl rfl) (k_plA (p := 77) rfl rfl) (k_plA (p := 78) rfl rfl) (k_plA (p := 79) rfl rfl) (k_plA (p := 90) rfl rfl) e2, rfl, rfl, m2⟩, Rel_eq R (rZ_eqB rfl rfl (rZ_f rfl rfl rfl rfl rfl rfl rfl rfl rfl rfl rfl)) hr⟩
def N_10 (u : Nat) (h : k_H) (a1 : Int32) (a2 : Int32) : Prop := ∃ o o', f_X10_order u (h.2.1 3 10) (h.2.1 6) (h.2.1 7) (h.2.1 8) (h.2.1 9) (h.2.1 30) (h.2.1 69) a1 a2 = some o ∧ f_X11_order u (h.2.1 70 0) (h.2.1 70 30) (h.2.1 71) (h.2.1 79) (h.2.1 80) (h.2.1 90) a1 a2 = some o' ∧ ((o.1 = 0 ∧ o'.2.1 = 0 ∧ o.2.1 = o'.1) ∨ (o.1 = 2 ∧ o'.2.1 = 1) ∨ (o.1 = 3 ∧ o'.2.1 = 2)) ∧ ∀ k, k < 3 → o.2.2 k = o'.2.2 k
set_option maxRecDepth 40000 in
theorem Q_10 {l : Launch} (hT : l.stackTraces = false) {u : Nat} {S : aT} {h : k_H} (R : Rel S h) {a1 a2 a3 a4 a5 : Int32} (N : N_10 u h a1 a2) : q_10 l h a1 a2 a3 a4 a5 (Rel S) := by
  obtain ⟨o, o', e1, e2, hm, hr⟩ := N
  obtain ⟨rest, hsh⟩ := rZ_CX R.1
  have hL := rZ_CLS R.1
  refine ⟨2, 12, _, _, by decide, by decide, c_X10_order l u hT h hsh  rfl rfl rfl rfl rfl rfl rfl e1, ?_, ?_⟩
  · rintro v h1 ⟨hk, rfl, rfl⟩
    rcases hm with ⟨m1, m2, m3⟩ | ⟨m1, m2⟩ | ⟨m1, m2⟩
    · refine ⟨o.2.1, o'.1, _, rfl, rZ_LSa hL, ⟨_, c_X11_order l u (k_pl piM shM _) rfl (k_plI (p := 70) rfl rfl) (k_plI (p := 70) rfl rfl) (k_plA (p := 71) rfl rfl) (k_plA (p := 79) rfl rfl) (k_plA (p := 80) rfl rfl) (k_plA (p := 90) rfl rfl) e2, rfl, rfl, m2⟩, (show _ = o.2.1.toInt64 from rfl).trans (show o.2.1.toInt64 = o'.1.toInt64 by rw [m3]), Rel_eq R (rZ_eqA rfl rfl _ (rZ_f rfl rfl rfl rfl rfl rfl rfl rfl rfl rfl rfl)) hr⟩
    · exact absurd (hk.symm.trans m1) (by decide)
    · exact absurd (hk.symm.trans m1) (by decide)
  · rintro E h1 ⟨hk, rfl, rfl⟩
    rcases hm with ⟨m1, m2, m3⟩ | ⟨m1, m2⟩ | ⟨m1, m2⟩
    · exact absurd m1 hk
    · refine ⟨o'.1, 1, _, rZ_LSa hL, Or.inl ⟨by rw [m1]; rfl, rfl⟩, ⟨_, c_X11_order l u (k_pl piM shM _) rfl (k_plI (p := 70) rfl rfl) (k_plI (p := 70) rfl rfl) (k_plA (p := 71) rfl rfl) (k_plA (p := 79) rfl rfl) (k_plA (p := 80) rfl rfl) (k_plA (p := 90) rfl rfl) e2, rfl, rfl, m2⟩, Rel_eq R (rZ_eqB rfl rfl (rZ_f rfl rfl rfl rfl rfl rfl rfl rfl rfl rfl rfl)) hr⟩
    · refine ⟨o'.1, 2, _, rZ_LSa hL, Or.inr ⟨by rw [m1]; rfl, rfl⟩, ⟨_, c_X11_order l u (k_pl piM shM _) rfl (k_plI (p := 70) rfl rfl) (k_plI (p := 70) rfl rfl) (k_plA (p := 71) rfl rfl) (k_plA (p := 79) rfl rfl) (k_plA (p := 80) rfl rfl) (k_plA (p := 90) rfl rfl) e2, rfl, rfl, m2⟩, Rel_eq R (rZ_eqB rfl rfl (rZ_f rfl rfl rfl rfl rfl rfl rfl rfl rfl rfl rfl)) hr⟩
def N_11 (u : Nat) (h : k_H) (a1 : Int32) (a2 : Int32) : Prop := ∃ o o', f_X10_note u (h.2.1 3 10) (h.2.1 8) (h.2.1 9) (h.2.1 69) a1 a2 = some o ∧ f_X11_note u (h.2.1 70 0) (h.2.1 70 30) (h.2.1 71) (h.2.1 80) a1 a2 = some o' ∧ ((o.1 = 0 ∧ o'.2.1 = 0 ∧ o.2.1 = o'.1) ∨ (o.1 = 2 ∧ o'.2.1 = 1) ∨ (o.1 = 3 ∧ o'.2.1 = 2)) ∧ ∀ k, k < 3 → o.2.2 k = o'.2.2 k
set_option maxRecDepth 40000 in
theorem Q_11 {l : Launch} (hT : l.stackTraces = false) {u : Nat} {S : aT} {h : k_H} (R : Rel S h) {a1 a2 a3 a4 a5 : Int32} (N : N_11 u h a1 a2) : q_11 l h a1 a2 a3 a4 a5 (Rel S) := by
  obtain ⟨o, o', e1, e2, hm, hr⟩ := N
  obtain ⟨rest, hsh⟩ := rZ_CX R.1
  have hL := rZ_CLS R.1
  refine ⟨2, 12, _, _, by decide, by decide, c_X10_note l u hT h hsh  rfl rfl rfl rfl e1, ?_, ?_⟩
  · rintro v h1 ⟨hk, rfl, rfl⟩
    rcases hm with ⟨m1, m2, m3⟩ | ⟨m1, m2⟩ | ⟨m1, m2⟩
    · refine ⟨o.2.1, o'.1, _, rfl, rZ_LSa hL, ⟨_, c_X11_note l u (k_pl piM shM _) rfl (k_plI (p := 70) rfl rfl) (k_plI (p := 70) rfl rfl) (k_plA (p := 71) rfl rfl) (k_plA (p := 80) rfl rfl) e2, rfl, rfl, m2⟩, (show _ = o.2.1.toInt64 from rfl).trans (show o.2.1.toInt64 = o'.1.toInt64 by rw [m3]), Rel_eq R (rZ_eqA rfl rfl _ (rZ_f rfl rfl rfl rfl rfl rfl rfl rfl rfl rfl rfl)) hr⟩
    · exact absurd (hk.symm.trans m1) (by decide)
    · exact absurd (hk.symm.trans m1) (by decide)
  · rintro E h1 ⟨hk, rfl, rfl⟩
    rcases hm with ⟨m1, m2, m3⟩ | ⟨m1, m2⟩ | ⟨m1, m2⟩
    · exact absurd m1 hk
    · refine ⟨o'.1, 1, _, rZ_LSa hL, Or.inl ⟨by rw [m1]; rfl, rfl⟩, ⟨_, c_X11_note l u (k_pl piM shM _) rfl (k_plI (p := 70) rfl rfl) (k_plI (p := 70) rfl rfl) (k_plA (p := 71) rfl rfl) (k_plA (p := 80) rfl rfl) e2, rfl, rfl, m2⟩, Rel_eq R (rZ_eqB rfl rfl (rZ_f rfl rfl rfl rfl rfl rfl rfl rfl rfl rfl rfl)) hr⟩
    · refine ⟨o'.1, 2, _, rZ_LSa hL, Or.inr ⟨by rw [m1]; rfl, rfl⟩, ⟨_, c_X11_note l u (k_pl piM shM _) rfl (k_plI (p := 70) rfl rfl) (k_plI (p := 70) rfl rfl) (k_plA (p := 71) rfl rfl) (k_plA (p := 80) rfl rfl) e2, rfl, rfl, m2⟩, Rel_eq R (rZ_eqB rfl rfl (rZ_f rfl rfl rfl rfl rfl rfl rfl rfl rfl rfl rfl)) hr⟩
def N_12 (u : Nat) (h : k_H) (a1 : Int32) : Prop := ∃ o o', f_X10_lacks u (h.2.1 3 10) (h.2.1 8) (h.2.1 9) (h.2.1 27) (h.2.1 69) a1 = some o ∧ f_X11_lacks u (h.2.1 70 0) (h.2.1 70 30) (h.2.1 71) (h.2.1 80) (h.2.1 90) (h.2.1 91) (h.2.1 94) a1 = some o' ∧ ((o.1 = 0 ∧ o'.2.1 = 0 ∧ o.2.1 = o'.1) ∨ (o.1 = 2 ∧ o'.2.1 = 1)) ∧ ∀ k, k < 3 → o.2.2 k = o'.2.2.1 k
set_option maxRecDepth 40000 in
theorem Q_12 {l : Launch} (hT : l.stackTraces = false) {u : Nat} {S : aT} {h : k_H} (R : Rel S h) {a1 a2 a3 a4 a5 : Int32} (N : N_12 u h a1) : q_12 l h a1 a2 a3 a4 a5 (Rel S) := by
  obtain ⟨o, o', e1, e2, hm, hr⟩ := N
  obtain ⟨rest, hsh⟩ := rZ_CX R.1
  have hL := rZ_CLS R.1
  refine ⟨1, 6, _, _, by decide, by decide, c_X10_lacks l u hT h hsh  rfl rfl rfl rfl rfl e1, ?_, ?_⟩
  · rintro v h1 ⟨hk, rfl, rfl⟩
    rcases hm with ⟨m1, m2, m3⟩ | ⟨m1, m2⟩
    · refine ⟨o.2.1, o'.1, _, rfl, rZ_LSa hL, ⟨_, c_X11_lacks l u (k_pl piM shM _) rfl (k_plI (p := 70) rfl rfl) (k_plI (p := 70) rfl rfl) (k_plA (p := 71) rfl rfl) (k_plA (p := 80) rfl rfl) (k_plA (p := 90) rfl rfl) (k_plA (p := 91) rfl rfl) (k_plA (p := 94) rfl rfl) e2, rfl, rfl, m2⟩, (show _ = o.2.1.toInt64 from rfl).trans (show o.2.1.toInt64 = o'.1.toInt64 by rw [m3]), Rel_eq R (rZ_eqA rfl rfl _ (rZ_f rfl rfl rfl rfl rfl rfl rfl rfl rfl rfl rfl)) hr⟩
    · exact absurd (hk.symm.trans m1) (by decide)
  · rintro E h1 ⟨hk, rfl, rfl⟩
    rcases hm with ⟨m1, m2, m3⟩ | ⟨m1, m2⟩
    · exact absurd m1 hk
    · refine ⟨o'.1, 1, _, rZ_LSa hL, ⟨by rw [m1]; rfl, rfl⟩, ⟨_, c_X11_lacks l u (k_pl piM shM _) rfl (k_plI (p := 70) rfl rfl) (k_plI (p := 70) rfl rfl) (k_plA (p := 71) rfl rfl) (k_plA (p := 80) rfl rfl) (k_plA (p := 90) rfl rfl) (k_plA (p := 91) rfl rfl) (k_plA (p := 94) rfl rfl) e2, rfl, rfl, m2⟩, Rel_eq R (rZ_eqB rfl rfl (rZ_f rfl rfl rfl rfl rfl rfl rfl rfl rfl rfl rfl)) hr⟩
def N_13 (u : Nat) (h : k_H) (a1 : Int32) (a2 : Int32) : Prop := ∃ o o', f_X10_can u (h.2.1 3 0) (h.2.1 3 1) (h.2.1 3 8) (h.2.2.1 3 5) (h.2.2.1 3 6) (h.2.1 26 11) (h.2.1 26 15) (h.2.2.1 26 3) (h.2.2.1 26 4) (h.2.1 69) a1 a2 = some o ∧ f_X11_can u (h.2.1 70 0) (h.2.1 70 25) (h.2.1 70 26) (h.2.1 70 27) (h.2.1 70 28) (h.2.1 71) (h.2.1 90) (h.2.1 91) a1 a2 = some o' ∧ ((o.1 = 0 ∧ o'.2.1 = 0 ∧ o.2.1 = o'.1) ∨ (o.1 = 1 ∧ o'.2.1 = 1)) ∧ ∀ k, k < 3 → o.2.2 k = o'.2.2.1 k
set_option maxRecDepth 40000 in
theorem Q_13 {l : Launch} (hT : l.stackTraces = false) {u : Nat} {S : aT} {h : k_H} (R : Rel S h) {a1 a2 a3 a4 a5 : Int32} (N : N_13 u h a1 a2) : q_13 l h a1 a2 a3 a4 a5 (Rel S) := by
  obtain ⟨o, o', e1, e2, hm, hr⟩ := N
  obtain ⟨rest, hsh⟩ := rZ_CX R.1
  have hL := rZ_CLS R.1
  refine ⟨1, 6, _, _, by decide, by decide, c_X10_can l u hT h hsh  rfl rfl rfl rfl rfl rfl rfl rfl rfl rfl e1, ?_, ?_⟩
  · rintro v h1 ⟨hk, rfl, rfl⟩
    rcases hm with ⟨m1, m2, m3⟩ | ⟨m1, m2⟩
    · refine ⟨o.2.1, o'.1, _, rfl, rZ_LSa hL, ⟨_, c_X11_can l u (k_pl piM shM _) rfl (k_plI (p := 70) rfl rfl) (k_plI (p := 70) rfl rfl) (k_plI (p := 70) rfl rfl) (k_plI (p := 70) rfl rfl) (k_plI (p := 70) rfl rfl) (k_plA (p := 71) rfl rfl) (k_plA (p := 90) rfl rfl) (k_plA (p := 91) rfl rfl) e2, rfl, rfl, m2⟩, (show _ = o.2.1.toInt64 from rfl).trans (show o.2.1.toInt64 = o'.1.toInt64 by rw [m3]), Rel_eq R (rZ_eqA rfl rfl _ (rZ_f rfl rfl rfl rfl rfl rfl rfl rfl rfl rfl rfl)) hr⟩
    · exact absurd (hk.symm.trans m1) (by decide)
  · rintro E h1 ⟨hk, rfl, rfl⟩
    rcases hm with ⟨m1, m2, m3⟩ | ⟨m1, m2⟩
    · exact absurd m1 hk
    · refine ⟨o'.1, 1, _, rZ_LSa hL, ⟨by rw [m1]; rfl, rfl⟩, ⟨_, c_X11_can l u (k_pl piM shM _) rfl (k_plI (p := 70) rfl rfl) (k_plI (p := 70) rfl rfl) (k_plI (p := 70) rfl rfl) (k_plI (p := 70) rfl rfl) (k_plI (p := 70) rfl rfl) (k_plA (p := 71) rfl rfl) (k_plA (p := 90) rfl rfl) (k_plA (p := 91) rfl rfl) e2, rfl, rfl, m2⟩, Rel_eq R (rZ_eqB rfl rfl (rZ_f rfl rfl rfl rfl rfl rfl rfl rfl rfl rfl rfl)) hr⟩
def N_14 (u : Nat) (h : k_H) (a1 : Int32) (a2 : Int32) : Prop := ∃ o o', f_X10_falls u (h.2.1 3 0) (h.2.1 3 1) (h.2.1 4) (h.2.1 5) (h.2.1 17 2) (h.2.1 18) (h.2.1 19) (h.2.1 26 10) (h.2.2.1 26 3) (h.2.2.1 26 4) (h.2.1 69) a1 a2 = some o ∧ f_X11_falls u (h.2.1 70 0) (h.2.1 70 25) (h.2.1 70 26) (h.2.1 71) (h.2.1 77) (h.2.1 78) (h.2.1 83) (h.2.1 84) (h.2.1 85) (h.2.1 86) (h.2.1 87) (h.2.1 90) (h.2.1 91) a1 a2 = some o' ∧ ((o.1 = 0 ∧ o'.2.1 = 0 ∧ o.2.1 = o'.1) ∨ (o.1 = 1 ∧ o'.2.1 = 1)) ∧ ∀ k, k < 3 → o.2.2.2 k = o'.2.2.1 k
set_option maxRecDepth 40000 in
theorem Q_14 {l : Launch} (hT : l.stackTraces = false) {u : Nat} {S : aT} {h : k_H} (R : Rel S h) {a1 a2 a3 a4 a5 : Int32} (N : N_14 u h a1 a2) : q_14 l h a1 a2 a3 a4 a5 (Rel S) := by
  obtain ⟨o, o', e1, e2, hm, hr⟩ := N
  obtain ⟨rest, hsh⟩ := rZ_CX R.1
  have hL := rZ_CLS R.1
  refine ⟨1, 6, _, _, by decide, by decide, c_X10_falls l u hT h hsh  rfl rfl rfl rfl rfl rfl rfl rfl rfl rfl rfl e1, ?_, ?_⟩
  · rintro v h1 ⟨hk, rfl, rfl⟩
    rcases hm with ⟨m1, m2, m3⟩ | ⟨m1, m2⟩
    · refine ⟨o.2.1, o'.1, _, rfl, rZ_LSa hL, ⟨_, c_X11_falls l u (k_pl piM shM _) rfl (k_plI (p := 70) rfl rfl) (k_plI (p := 70) rfl rfl) (k_plI (p := 70) rfl rfl) (k_plA (p := 71) rfl rfl) (k_plA (p := 77) rfl rfl) (k_plA (p := 78) rfl rfl) (k_plA (p := 83) rfl rfl) (k_plA (p := 84) rfl rfl) (k_plA (p := 85) rfl rfl) (k_plA (p := 86) rfl rfl) (k_plA (p := 87) rfl rfl) (k_plA (p := 90) rfl rfl) (k_plA (p := 91) rfl rfl) e2, rfl, rfl, m2⟩, (show _ = (if o.2.1 = 0 then (0 : Int64) else 1) from rfl).trans (show (if o.2.1 = 0 then (0 : Int64) else 1) = (if o'.1 = 0 then (0 : Int64) else 1) by rw [m3]), Rel_eq R (rZ_eqA rfl rfl _ (rZ_f rfl rfl rfl rfl rfl rfl rfl rfl rfl rfl rfl)) hr⟩
    · exact absurd (hk.symm.trans m1) (by decide)
  · rintro E h1 ⟨hk, rfl, rfl⟩
    rcases hm with ⟨m1, m2, m3⟩ | ⟨m1, m2⟩
    · exact absurd m1 hk
    · refine ⟨o'.1, 1, _, rZ_LSa hL, ⟨by rw [m1]; rfl, rfl⟩, ⟨_, c_X11_falls l u (k_pl piM shM _) rfl (k_plI (p := 70) rfl rfl) (k_plI (p := 70) rfl rfl) (k_plI (p := 70) rfl rfl) (k_plA (p := 71) rfl rfl) (k_plA (p := 77) rfl rfl) (k_plA (p := 78) rfl rfl) (k_plA (p := 83) rfl rfl) (k_plA (p := 84) rfl rfl) (k_plA (p := 85) rfl rfl) (k_plA (p := 86) rfl rfl) (k_plA (p := 87) rfl rfl) (k_plA (p := 90) rfl rfl) (k_plA (p := 91) rfl rfl) e2, rfl, rfl, m2⟩, Rel_eq R (rZ_eqB rfl rfl (rZ_f rfl rfl rfl rfl rfl rfl rfl rfl rfl rfl rfl)) hr⟩
def N_15 (u : Nat) (h : k_H) (a1 : Int32) (a2 : Int32) : Prop := ∃ o o', f_X10_risks u (h.2.1 3 0) (h.2.1 3 1) (h.2.1 3 8) (h.2.2.1 3 5) (h.2.2.1 3 6) (h.2.1 4) (h.2.1 5) (h.2.1 17 2) (h.2.1 18) (h.2.1 19) (h.2.1 26 10) (h.2.1 26 11) (h.2.1 26 12) (h.2.1 26 13) (h.2.1 26 14) (h.2.1 26 15) (h.2.1 26 16) (h.2.1 26 17) (h.2.2.1 26 3) (h.2.2.1 26 4) (h.2.2.1 26 5) (h.2.1 27) (h.2.1 28) (h.2.1 29) (h.2.1 30) (h.2.1 43 10) (h.2.1 43 11) (h.2.1 43 12) (h.2.1 43 13) (h.2.1 43 14) (h.2.1 43 15) (h.2.1 43 16) (h.2.1 43 17) (h.2.2.1 43 3) (h.2.2.1 43 4) (h.2.2.1 43 5) (h.2.1 44) (h.2.1 45) (h.2.1 46) (h.2.1 47) (h.2.1 69) a1 a2 = some o ∧ f_X11_risks u (h.2.1 70 0) (h.2.1 70 25) (h.2.1 70 26) (h.2.1 70 27) (h.2.1 71) (h.2.1 77) (h.2.1 78) (h.2.1 83) (h.2.1 84) (h.2.1 85) (h.2.1 86) (h.2.1 87) (h.2.1 90) (h.2.1 91) (h.2.1 93) a1 a2 = some o' ∧ ((o.1 = 0 ∧ o'.2.1 = 0 ∧ o.2.1 = o'.1) ∨ (o.1 = 1 ∧ o'.2.1 = 1)) ∧ ∀ k, k < 3 → o.2.2.2.2.2.2.2.2.2.2.2.2.2.2.2.2.2.2 k = o'.2.2.1 k
set_option maxRecDepth 40000 in
theorem Q_15 {l : Launch} (hT : l.stackTraces = false) {u : Nat} {S : aT} {h : k_H} (R : Rel S h) {a1 a2 a3 a4 a5 : Int32} (N : N_15 u h a1 a2) : q_15 l h a1 a2 a3 a4 a5 (Rel S) := by
  obtain ⟨o, o', e1, e2, hm, hr⟩ := N
  obtain ⟨rest, hsh⟩ := rZ_CX R.1
  have hL := rZ_CLS R.1
  refine ⟨1, 6, _, _, by decide, by decide, c_X10_risks l u hT h hsh R.1.2.2.1 rfl rfl rfl rfl rfl rfl rfl rfl rfl rfl rfl rfl rfl rfl rfl rfl rfl rfl rfl rfl rfl rfl rfl rfl rfl rfl rfl rfl rfl rfl rfl rfl rfl rfl rfl rfl rfl rfl rfl rfl rfl e1, ?_, ?_⟩
  · rintro v h1 ⟨hk, rfl, rfl⟩
    rcases hm with ⟨m1, m2, m3⟩ | ⟨m1, m2⟩
    · refine ⟨o.2.1, o'.1, _, rfl, rZ_LSa hL, ⟨_, c_X11_risks l u (k_pl piM shM _) rfl (k_plI (p := 70) rfl rfl) (k_plI (p := 70) rfl rfl) (k_plI (p := 70) rfl rfl) (k_plI (p := 70) rfl rfl) (k_plA (p := 71) rfl rfl) (k_plA (p := 77) rfl rfl) (k_plA (p := 78) rfl rfl) (k_plA (p := 83) rfl rfl) (k_plA (p := 84) rfl rfl) (k_plA (p := 85) rfl rfl) (k_plA (p := 86) rfl rfl) (k_plA (p := 87) rfl rfl) (k_plA (p := 90) rfl rfl) (k_plA (p := 91) rfl rfl) (k_plA (p := 93) rfl rfl) e2, rfl, rfl, m2⟩, (show _ = o.2.1.toInt64 from rfl).trans (show o.2.1.toInt64 = o'.1.toInt64 by rw [m3]), Rel_eq R (rZ_eqA rfl rfl _ (rZ_f rfl rfl rfl rfl rfl rfl rfl rfl rfl rfl rfl)) hr⟩
    · exact absurd (hk.symm.trans m1) (by decide)
  · rintro E h1 ⟨hk, rfl, rfl⟩
    rcases hm with ⟨m1, m2, m3⟩ | ⟨m1, m2⟩
    · exact absurd m1 hk
    · refine ⟨o'.1, 1, _, rZ_LSa hL, ⟨by rw [m1]; rfl, rfl⟩, ⟨_, c_X11_risks l u (k_pl piM shM _) rfl (k_plI (p := 70) rfl rfl) (k_plI (p := 70) rfl rfl) (k_plI (p := 70) rfl rfl) (k_plI (p := 70) rfl rfl) (k_plA (p := 71) rfl rfl) (k_plA (p := 77) rfl rfl) (k_plA (p := 78) rfl rfl) (k_plA (p := 83) rfl rfl) (k_plA (p := 84) rfl rfl) (k_plA (p := 85) rfl rfl) (k_plA (p := 86) rfl rfl) (k_plA (p := 87) rfl rfl) (k_plA (p := 90) rfl rfl) (k_plA (p := 91) rfl rfl) (k_plA (p := 93) rfl rfl) e2, rfl, rfl, m2⟩, Rel_eq R (rZ_eqB rfl rfl (rZ_f rfl rfl rfl rfl rfl rfl rfl rfl rfl rfl rfl)) hr⟩
def N_16 (u : Nat) (h : k_H) (a1 : Int32) (a2 : Int32) : Prop := ∃ o o', f_X10_harm u (h.2.1 3 0) (h.2.1 3 1) (h.2.1 4) (h.2.1 5) (h.2.1 20 2) (h.2.1 21) (h.2.1 22) (h.2.1 26 10) (h.2.2.1 26 3) (h.2.2.1 26 4) (h.2.1 69) a1 a2 = some o ∧ f_X11_harm u (h.2.1 70 0) (h.2.1 70 25) (h.2.1 70 26) (h.2.1 71) (h.2.1 77) (h.2.1 78) (h.2.1 83) (h.2.1 84) (h.2.1 85) (h.2.1 86) (h.2.1 87) (h.2.1 90) (h.2.1 91) a1 a2 = some o' ∧ ((o.1 = 0 ∧ o'.2.1 = 0 ∧ o.2.1 = o'.1) ∨ (o.1 = 1 ∧ o'.2.1 = 1)) ∧ ∀ k, k < 3 → o.2.2.2 k = o'.2.2.1 k
set_option maxRecDepth 40000 in
theorem Q_16 {l : Launch} (hT : l.stackTraces = false) {u : Nat} {S : aT} {h : k_H} (R : Rel S h) {a1 a2 a3 a4 a5 : Int32} (N : N_16 u h a1 a2) : q_16 l h a1 a2 a3 a4 a5 (Rel S) := by
  obtain ⟨o, o', e1, e2, hm, hr⟩ := N
  obtain ⟨rest, hsh⟩ := rZ_CX R.1
  have hL := rZ_CLS R.1
  refine ⟨1, 6, _, _, by decide, by decide, c_X10_harm l u hT h hsh  rfl rfl rfl rfl rfl rfl rfl rfl rfl rfl rfl e1, ?_, ?_⟩
  · rintro v h1 ⟨hk, rfl, rfl⟩
    rcases hm with ⟨m1, m2, m3⟩ | ⟨m1, m2⟩
    · refine ⟨o.2.1, o'.1, _, rfl, rZ_LSa hL, ⟨_, c_X11_harm l u (k_pl piM shM _) rfl (k_plI (p := 70) rfl rfl) (k_plI (p := 70) rfl rfl) (k_plI (p := 70) rfl rfl) (k_plA (p := 71) rfl rfl) (k_plA (p := 77) rfl rfl) (k_plA (p := 78) rfl rfl) (k_plA (p := 83) rfl rfl) (k_plA (p := 84) rfl rfl) (k_plA (p := 85) rfl rfl) (k_plA (p := 86) rfl rfl) (k_plA (p := 87) rfl rfl) (k_plA (p := 90) rfl rfl) (k_plA (p := 91) rfl rfl) e2, rfl, rfl, m2⟩, (show _ = o.2.1.toInt64 from rfl).trans (show o.2.1.toInt64 = o'.1.toInt64 by rw [m3]), Rel_eq R (rZ_eqA rfl rfl _ (rZ_f rfl rfl rfl rfl rfl rfl rfl rfl rfl rfl rfl)) hr⟩
    · exact absurd (hk.symm.trans m1) (by decide)
  · rintro E h1 ⟨hk, rfl, rfl⟩
    rcases hm with ⟨m1, m2, m3⟩ | ⟨m1, m2⟩
    · exact absurd m1 hk
    · refine ⟨o'.1, 1, _, rZ_LSa hL, ⟨by rw [m1]; rfl, rfl⟩, ⟨_, c_X11_harm l u (k_pl piM shM _) rfl (k_plI (p := 70) rfl rfl) (k_plI (p := 70) rfl rfl) (k_plI (p := 70) rfl rfl) (k_plA (p := 71) rfl rfl) (k_plA (p := 77) rfl rfl) (k_plA (p := 78) rfl rfl) (k_plA (p := 83) rfl rfl) (k_plA (p := 84) rfl rfl) (k_plA (p := 85) rfl rfl) (k_plA (p := 86) rfl rfl) (k_plA (p := 87) rfl rfl) (k_plA (p := 90) rfl rfl) (k_plA (p := 91) rfl rfl) e2, rfl, rfl, m2⟩, Rel_eq R (rZ_eqB rfl rfl (rZ_f rfl rfl rfl rfl rfl rfl rfl rfl rfl rfl rfl)) hr⟩
def N_17 (u : Nat) (h : k_H) (a1 : Int32) (a2 : Int32) : Prop := ∃ o o', f_X10_best u (h.2.2.1 3 5) (h.2.2.1 3 6) (h.2.1 4) (h.2.1 5) (h.2.1 6) (h.2.1 17 2) (h.2.1 18) (h.2.1 19) (h.2.1 20 2) (h.2.1 21) (h.2.1 22) (h.2.1 26 10) (h.2.1 26 11) (h.2.1 26 12) (h.2.1 26 13) (h.2.1 26 14) (h.2.1 26 15) (h.2.1 26 16) (h.2.1 26 17) (h.2.2.1 26 3) (h.2.2.1 26 4) (h.2.2.1 26 5) (h.2.1 27) (h.2.1 28) (h.2.1 29) (h.2.1 30) (h.2.1 40 3) (h.2.1 40 4) (h.2.2.1 40 5) (h.2.1 43 10) (h.2.1 43 11) (h.2.1 43 12) (h.2.1 43 13) (h.2.1 43 14) (h.2.1 43 15) (h.2.1 43 16) (h.2.1 43 17) (h.2.2.1 43 3) (h.2.2.1 43 4) (h.2.2.1 43 5) (h.2.1 44) (h.2.1 45) (h.2.1 46) (h.2.1 47) (h.2.1 48 10) (h.2.1 48 11) (h.2.1 48 12) (h.2.1 48 13) (h.2.1 48 14) (h.2.1 48 15) (h.2.1 48 16) (h.2.1 48 17) (h.2.2.1 48 3) (h.2.2.1 48 4) (h.2.2.1 48 5) (h.2.1 49) (h.2.1 50) (h.2.1 51) (h.2.1 52) (h.2.1 53 10) (h.2.1 53 11) (h.2.1 53 12) (h.2.1 53 13) (h.2.1 53 14) (h.2.1 53 15) (h.2.1 53 16) (h.2.1 53 17) (h.2.2.1 53 3) (h.2.2.1 53 4) (h.2.2.1 53 5) (h.2.1 54) (h.2.1 55) (h.2.1 56) (h.2.1 57) (h.2.1 69) a1 a2 = some o ∧ f_X11_best u (h.2.1 70 0) (h.2.1 70 25) (h.2.1 70 26) (h.2.1 70 27) (h.2.1 70 56) (h.2.1 70 57) (h.2.2.1 70 58) (h.2.1 71) (h.2.1 77) (h.2.1 78) (h.2.1 79) (h.2.1 83) (h.2.1 84) (h.2.1 85) (h.2.1 86) (h.2.1 87) (h.2.1 90) (h.2.1 91) (h.2.1 93) (h.2.1 97) a1 a2 = some o' ∧ ((o.1 = 0 ∧ o'.2.1 = 0 ∧ o.2.1 = o'.1) ∨ (o.1 = 3 ∧ o'.2.1 = 1)) ∧ ∀ k, k < 3 → o.2.2.2.2.2.2.2.2.2.2.2.2.2.2.2.2.2.2.2.2.2.2.2.2.2.2.2.2.2.2.2.2.2.2.2.2.2.2.2.2.2.2.2.2.2.2.2.2.2.2.2.2 k = o'.2.2.2.2.2.1 k
set_option maxRecDepth 40000 in
theorem Q_17 {l : Launch} (hT : l.stackTraces = false) {u : Nat} {S : aT} {h : k_H} (R : Rel S h) {a1 a2 a3 a4 a5 : Int32} (N : N_17 u h a1 a2) : q_17 l h a1 a2 a3 a4 a5 (Rel S) := by
  obtain ⟨o, o', e1, e2, hm, hr⟩ := N
  obtain ⟨rest, hsh⟩ := rZ_CX R.1
  have hL := rZ_CLS R.1
  refine ⟨1, 6, _, _, by decide, by decide, c_X10_best l u hT h hsh R.1.2.2.1 R.1.2.2.2.1 R.1.2.2.2.2 rfl rfl rfl rfl rfl rfl rfl rfl rfl rfl rfl rfl rfl rfl rfl rfl rfl rfl rfl rfl rfl rfl rfl rfl rfl rfl rfl rfl rfl rfl rfl rfl rfl rfl rfl rfl rfl rfl rfl rfl rfl rfl rfl rfl rfl rfl rfl rfl rfl rfl rfl rfl rfl rfl rfl rfl rfl rfl rfl rfl rfl rfl rfl rfl rfl rfl rfl rfl rfl rfl rfl rfl rfl rfl rfl e1, ?_, ?_⟩
  · rintro v h1 ⟨hk, rfl, rfl⟩
    rcases hm with ⟨m1, m2, m3⟩ | ⟨m1, m2⟩
    · refine ⟨o.2.1, o'.1, _, rfl, rZ_LSa hL, ⟨_, c_X11_best l u (k_pl piM shM _) rfl (k_plI (p := 70) rfl rfl) (k_plI (p := 70) rfl rfl) (k_plI (p := 70) rfl rfl) (k_plI (p := 70) rfl rfl) (k_plI (p := 70) rfl rfl) (k_plI (p := 70) rfl rfl) (k_plL (p := 70) rfl rfl) (k_plA (p := 71) rfl rfl) (k_plA (p := 77) rfl rfl) (k_plA (p := 78) rfl rfl) (k_plA (p := 79) rfl rfl) (k_plA (p := 83) rfl rfl) (k_plA (p := 84) rfl rfl) (k_plA (p := 85) rfl rfl) (k_plA (p := 86) rfl rfl) (k_plA (p := 87) rfl rfl) (k_plA (p := 90) rfl rfl) (k_plA (p := 91) rfl rfl) (k_plA (p := 93) rfl rfl) (k_plA (p := 97) rfl rfl) e2, rfl, rfl, m2⟩, (show _ = o.2.1 from rfl).trans (show o.2.1 = o'.1 by rw [m3]), Rel_eq R (rZ_eqA rfl rfl _ (rZ_f rfl rfl rfl rfl rfl rfl rfl rfl rfl rfl rfl)) hr⟩
    · exact absurd (hk.symm.trans m1) (by decide)
  · rintro E h1 ⟨hk, rfl, rfl⟩
    rcases hm with ⟨m1, m2, m3⟩ | ⟨m1, m2⟩
    · exact absurd m1 hk
    · refine ⟨o'.1, 1, _, rZ_LSa hL, ⟨by rw [m1]; rfl, rfl⟩, ⟨_, c_X11_best l u (k_pl piM shM _) rfl (k_plI (p := 70) rfl rfl) (k_plI (p := 70) rfl rfl) (k_plI (p := 70) rfl rfl) (k_plI (p := 70) rfl rfl) (k_plI (p := 70) rfl rfl) (k_plI (p := 70) rfl rfl) (k_plL (p := 70) rfl rfl) (k_plA (p := 71) rfl rfl) (k_plA (p := 77) rfl rfl) (k_plA (p := 78) rfl rfl) (k_plA (p := 79) rfl rfl) (k_plA (p := 83) rfl rfl) (k_plA (p := 84) rfl rfl) (k_plA (p := 85) rfl rfl) (k_plA (p := 86) rfl rfl) (k_plA (p := 87) rfl rfl) (k_plA (p := 90) rfl rfl) (k_plA (p := 91) rfl rfl) (k_plA (p := 93) rfl rfl) (k_plA (p := 97) rfl rfl) e2, rfl, rfl, m2⟩, Rel_eq R (rZ_eqB rfl rfl (rZ_f rfl rfl rfl rfl rfl rfl rfl rfl rfl rfl rfl)) hr⟩
def N_18 (u : Nat) (h : k_H) (a1 : Int32) (a2 : Int32) (a3 : Int32) : Prop := ∃ o o', f_X10_way u (h.2.1 3 0) (h.2.1 3 1) (h.2.2.1 3 5) (h.2.2.1 3 6) (h.2.1 4) (h.2.1 5) (h.2.2.1 26 3) (h.2.2.1 26 4) (h.2.2.1 26 5) (h.2.1 42) (h.2.1 69) a1 a2 a3 = some o ∧ f_X11_way u (h.2.1 70 0) (h.2.1 70 25) (h.2.1 70 26) (h.2.1 70 27) (h.2.1 71) (h.2.1 77) (h.2.1 78) (h.2.1 90) (h.2.1 91) (h.2.1 98) (h.2.1 99) a1 a2 a3 = some o' ∧ ((o.1 = 0 ∧ o'.2.1 = 0 ∧ o.2.1 = o'.1) ∨ (o.1 = 1 ∧ o'.2.1 = 1) ∨ (o.1 = 3 ∧ o'.2.1 = 2)) ∧ ∀ k, k < 3 → o.2.2.2 k = o'.2.2.1 k
set_option maxRecDepth 40000 in
theorem Q_18 {l : Launch} (hT : l.stackTraces = false) {u : Nat} {S : aT} {h : k_H} (R : Rel S h) {a1 a2 a3 a4 a5 : Int32} (N : N_18 u h a1 a2 a3) : q_18 l h a1 a2 a3 a4 a5 (Rel S) := by
  obtain ⟨o, o', e1, e2, hm, hr⟩ := N
  obtain ⟨rest, hsh⟩ := rZ_CX R.1
  have hL := rZ_CLS R.1
  refine ⟨2, 12, _, _, by decide, by decide, c_X10_way l u hT h hsh  rfl rfl rfl rfl rfl rfl rfl rfl rfl rfl rfl e1, ?_, ?_⟩
  · rintro v h1 ⟨hk, rfl, rfl⟩
    rcases hm with ⟨m1, m2, m3⟩ | ⟨m1, m2⟩ | ⟨m1, m2⟩
    · refine ⟨o.2.1, o'.1, _, rfl, rZ_LSa hL, ⟨_, c_X11_way l u (k_pl piM shM _) rfl (k_plI (p := 70) rfl rfl) (k_plI (p := 70) rfl rfl) (k_plI (p := 70) rfl rfl) (k_plI (p := 70) rfl rfl) (k_plA (p := 71) rfl rfl) (k_plA (p := 77) rfl rfl) (k_plA (p := 78) rfl rfl) (k_plA (p := 90) rfl rfl) (k_plA (p := 91) rfl rfl) (k_plA (p := 98) rfl rfl) (k_plA (p := 99) rfl rfl) e2, rfl, rfl, m2⟩, (show _ = o.2.1.toInt64 from rfl).trans (show o.2.1.toInt64 = o'.1.toInt64 by rw [m3]), Rel_eq R (rZ_eqA rfl rfl _ (rZ_f rfl rfl rfl rfl rfl rfl rfl rfl rfl rfl rfl)) hr⟩
    · exact absurd (hk.symm.trans m1) (by decide)
    · exact absurd (hk.symm.trans m1) (by decide)
  · rintro E h1 ⟨hk, rfl, rfl⟩
    rcases hm with ⟨m1, m2, m3⟩ | ⟨m1, m2⟩ | ⟨m1, m2⟩
    · exact absurd m1 hk
    · refine ⟨o'.1, 1, _, rZ_LSa hL, Or.inl ⟨by rw [m1]; rfl, rfl⟩, ⟨_, c_X11_way l u (k_pl piM shM _) rfl (k_plI (p := 70) rfl rfl) (k_plI (p := 70) rfl rfl) (k_plI (p := 70) rfl rfl) (k_plI (p := 70) rfl rfl) (k_plA (p := 71) rfl rfl) (k_plA (p := 77) rfl rfl) (k_plA (p := 78) rfl rfl) (k_plA (p := 90) rfl rfl) (k_plA (p := 91) rfl rfl) (k_plA (p := 98) rfl rfl) (k_plA (p := 99) rfl rfl) e2, rfl, rfl, m2⟩, Rel_eq R (rZ_eqB rfl rfl (rZ_f rfl rfl rfl rfl rfl rfl rfl rfl rfl rfl rfl)) hr⟩
    · refine ⟨o'.1, 2, _, rZ_LSa hL, Or.inr ⟨by rw [m1]; rfl, rfl⟩, ⟨_, c_X11_way l u (k_pl piM shM _) rfl (k_plI (p := 70) rfl rfl) (k_plI (p := 70) rfl rfl) (k_plI (p := 70) rfl rfl) (k_plI (p := 70) rfl rfl) (k_plA (p := 71) rfl rfl) (k_plA (p := 77) rfl rfl) (k_plA (p := 78) rfl rfl) (k_plA (p := 90) rfl rfl) (k_plA (p := 91) rfl rfl) (k_plA (p := 98) rfl rfl) (k_plA (p := 99) rfl rfl) e2, rfl, rfl, m2⟩, Rel_eq R (rZ_eqB rfl rfl (rZ_f rfl rfl rfl rfl rfl rfl rfl rfl rfl rfl rfl)) hr⟩
def N_19 (u : Nat) (h : k_H) (a1 : Int32) : Prop := ∃ o o', f_X10_hold u (h.2.1 3 1) (h.2.1 4) (h.2.1 5) (h.2.1 17 2) (h.2.1 18) (h.2.1 19) (h.2.1 26 10) (h.2.1 26 11) (h.2.1 26 12) (h.2.1 26 13) (h.2.1 26 14) (h.2.1 26 15) (h.2.1 26 16) (h.2.1 26 17) (h.2.2.1 26 3) (h.2.2.1 26 4) (h.2.2.1 26 5) (h.2.1 27) (h.2.1 28) (h.2.1 29) (h.2.1 30) (h.2.1 43 10) (h.2.1 43 11) (h.2.1 43 12) (h.2.1 43 13) (h.2.1 43 14) (h.2.1 43 15) (h.2.1 43 16) (h.2.1 43 17) (h.2.2.1 43 3) (h.2.2.1 43 4) (h.2.2.1 43 5) (h.2.1 44) (h.2.1 45) (h.2.1 46) (h.2.1 47) (h.2.1 69) a1 = some o ∧ f_X11_hold u (h.2.1 70 0) (h.2.1 70 25) (h.2.1 70 26) (h.2.1 71) (h.2.1 77) (h.2.1 78) (h.2.1 83) (h.2.1 84) (h.2.1 85) (h.2.1 86) (h.2.1 87) (h.2.1 90) (h.2.1 91) (h.2.1 93) a1 = some o' ∧ ((o.1 = 0 ∧ o'.2.1 = 0 ∧ o.2.1 = o'.1) ∨ (o.1 = 3 ∧ o'.2.1 = 1)) ∧ ∀ k, k < 3 → o.2.2.2.2.2.2.2.2.2.2.2.2.2.2.2.2.2.2 k = o'.2.2.1 k
set_option maxRecDepth 40000 in
theorem Q_19 {l : Launch} (hT : l.stackTraces = false) {u : Nat} {S : aT} {h : k_H} (R : Rel S h) {a1 a2 a3 a4 a5 : Int32} (N : N_19 u h a1) : q_19 l h a1 a2 a3 a4 a5 (Rel S) := by
  obtain ⟨o, o', e1, e2, hm, hr⟩ := N
  obtain ⟨rest, hsh⟩ := rZ_CX R.1
  have hL := rZ_CLS R.1
  refine ⟨1, 6, _, _, by decide, by decide, c_X10_hold l u hT h hsh R.1.2.2.1 rfl rfl rfl rfl rfl rfl rfl rfl rfl rfl rfl rfl rfl rfl rfl rfl rfl rfl rfl rfl rfl rfl rfl rfl rfl rfl rfl rfl rfl rfl rfl rfl rfl rfl rfl rfl rfl e1, ?_, ?_⟩
  · rintro v h1 ⟨hk, rfl, rfl⟩
    rcases hm with ⟨m1, m2, m3⟩ | ⟨m1, m2⟩
    · refine ⟨o.2.1, o'.1, _, rfl, rZ_LSa hL, ⟨_, c_X11_hold l u (k_pl piM shM _) rfl (k_plI (p := 70) rfl rfl) (k_plI (p := 70) rfl rfl) (k_plI (p := 70) rfl rfl) (k_plA (p := 71) rfl rfl) (k_plA (p := 77) rfl rfl) (k_plA (p := 78) rfl rfl) (k_plA (p := 83) rfl rfl) (k_plA (p := 84) rfl rfl) (k_plA (p := 85) rfl rfl) (k_plA (p := 86) rfl rfl) (k_plA (p := 87) rfl rfl) (k_plA (p := 90) rfl rfl) (k_plA (p := 91) rfl rfl) (k_plA (p := 93) rfl rfl) e2, rfl, rfl, m2⟩, (show _ = o.2.1 from rfl).trans (show o.2.1 = o'.1 by rw [m3]), Rel_eq R (rZ_eqA rfl rfl _ (rZ_f rfl rfl rfl rfl rfl rfl rfl rfl rfl rfl rfl)) hr⟩
    · exact absurd (hk.symm.trans m1) (by decide)
  · rintro E h1 ⟨hk, rfl, rfl⟩
    rcases hm with ⟨m1, m2, m3⟩ | ⟨m1, m2⟩
    · exact absurd m1 hk
    · refine ⟨o'.1, 1, _, rZ_LSa hL, ⟨by rw [m1]; rfl, rfl⟩, ⟨_, c_X11_hold l u (k_pl piM shM _) rfl (k_plI (p := 70) rfl rfl) (k_plI (p := 70) rfl rfl) (k_plI (p := 70) rfl rfl) (k_plA (p := 71) rfl rfl) (k_plA (p := 77) rfl rfl) (k_plA (p := 78) rfl rfl) (k_plA (p := 83) rfl rfl) (k_plA (p := 84) rfl rfl) (k_plA (p := 85) rfl rfl) (k_plA (p := 86) rfl rfl) (k_plA (p := 87) rfl rfl) (k_plA (p := 90) rfl rfl) (k_plA (p := 91) rfl rfl) (k_plA (p := 93) rfl rfl) e2, rfl, rfl, m2⟩, Rel_eq R (rZ_eqB rfl rfl (rZ_f rfl rfl rfl rfl rfl rfl rfl rfl rfl rfl rfl)) hr⟩
def N_20 (u : Nat) (h : k_H) (a1 : Int32) : Prop := ∃ o o', f_X10_fill u (h.2.1 3 10) (h.2.1 6) (h.2.1 8) (h.2.1 9) (h.2.1 27) (h.2.1 30) (h.2.1 69) a1 = some o ∧ f_X11_fill u (h.2.1 70 0) (h.2.1 70 30) (h.2.1 71) (h.2.1 79) (h.2.1 80) (h.2.1 90) (h.2.1 91) (h.2.1 94) a1 = some o' ∧ ((o.1 = 0 ∧ o'.2.1 = 0 ∧ o.2.1 = o'.1) ∨ (o.1 = 3 ∧ o'.2.1 = 1)) ∧ ∀ k, k < 3 → o.2.2 k = o'.2.2.1 k
set_option maxRecDepth 40000 in
theorem Q_20 {l : Launch} (hT : l.stackTraces = false) {u : Nat} {S : aT} {h : k_H} (R : Rel S h) {a1 a2 a3 a4 a5 : Int32} (N : N_20 u h a1) : q_20 l h a1 a2 a3 a4 a5 (Rel S) := by
  obtain ⟨o, o', e1, e2, hm, hr⟩ := N
  obtain ⟨rest, hsh⟩ := rZ_CX R.1
  have hL := rZ_CLS R.1
  refine ⟨1, 6, _, _, by decide, by decide, c_X10_fill l u hT h hsh  rfl rfl rfl rfl rfl rfl rfl e1, ?_, ?_⟩
  · rintro v h1 ⟨hk, rfl, rfl⟩
    rcases hm with ⟨m1, m2, m3⟩ | ⟨m1, m2⟩
    · refine ⟨o.2.1, o'.1, _, rfl, rZ_LSa hL, ⟨_, c_X11_fill l u (k_pl piM shM _) rfl (k_plI (p := 70) rfl rfl) (k_plI (p := 70) rfl rfl) (k_plA (p := 71) rfl rfl) (k_plA (p := 79) rfl rfl) (k_plA (p := 80) rfl rfl) (k_plA (p := 90) rfl rfl) (k_plA (p := 91) rfl rfl) (k_plA (p := 94) rfl rfl) e2, rfl, rfl, m2⟩, (show _ = o.2.1.toInt64 from rfl).trans (show o.2.1.toInt64 = o'.1.toInt64 by rw [m3]), Rel_eq R (rZ_eqA rfl rfl _ (rZ_f rfl rfl rfl rfl rfl rfl rfl rfl rfl rfl rfl)) hr⟩
    · exact absurd (hk.symm.trans m1) (by decide)
  · rintro E h1 ⟨hk, rfl, rfl⟩
    rcases hm with ⟨m1, m2, m3⟩ | ⟨m1, m2⟩
    · exact absurd m1 hk
    · refine ⟨o'.1, 1, _, rZ_LSa hL, ⟨by rw [m1]; rfl, rfl⟩, ⟨_, c_X11_fill l u (k_pl piM shM _) rfl (k_plI (p := 70) rfl rfl) (k_plI (p := 70) rfl rfl) (k_plA (p := 71) rfl rfl) (k_plA (p := 79) rfl rfl) (k_plA (p := 80) rfl rfl) (k_plA (p := 90) rfl rfl) (k_plA (p := 91) rfl rfl) (k_plA (p := 94) rfl rfl) e2, rfl, rfl, m2⟩, Rel_eq R (rZ_eqB rfl rfl (rZ_f rfl rfl rfl rfl rfl rfl rfl rfl rfl rfl rfl)) hr⟩
def N_21 (u : Nat) (h : k_H) (a1 : Int32) : Prop := ∃ o o', f_X10_tap u (h.2.1 3 0) (h.2.1 3 1) (h.2.1 4) (h.2.1 69) a1 = some o ∧ f_X11_tap u (h.2.1 70 0) (h.2.1 70 25) (h.2.1 70 26) (h.2.1 71) (h.2.1 77) a1 = some o' ∧ ((o.1 = 0 ∧ o'.2.1 = 0 ∧ o.2.1 = o'.1) ∨ (o.1 = 3 ∧ o'.2.1 = 1)) ∧ ∀ k, k < 3 → o.2.2 k = o'.2.2 k
set_option maxRecDepth 40000 in
theorem Q_21 {l : Launch} (hT : l.stackTraces = false) {u : Nat} {S : aT} {h : k_H} (R : Rel S h) {a1 a2 a3 a4 a5 : Int32} (N : N_21 u h a1) : q_21 l h a1 a2 a3 a4 a5 (Rel S) := by
  obtain ⟨o, o', e1, e2, hm, hr⟩ := N
  obtain ⟨rest, hsh⟩ := rZ_CX R.1
  have hL := rZ_CLS R.1
  refine ⟨1, 6, _, _, by decide, by decide, c_X10_tap l u hT h hsh  rfl rfl rfl rfl e1, ?_, ?_⟩
  · rintro v h1 ⟨hk, rfl, rfl⟩
    rcases hm with ⟨m1, m2, m3⟩ | ⟨m1, m2⟩
    · refine ⟨o.2.1, o'.1, _, rfl, rZ_LSa hL, ⟨_, c_X11_tap l u (k_pl piM shM _) rfl (k_plI (p := 70) rfl rfl) (k_plI (p := 70) rfl rfl) (k_plI (p := 70) rfl rfl) (k_plA (p := 71) rfl rfl) (k_plA (p := 77) rfl rfl) e2, rfl, rfl, m2⟩, (show _ = o.2.1.toInt64 from rfl).trans (show o.2.1.toInt64 = o'.1.toInt64 by rw [m3]), Rel_eq R (rZ_eqA rfl rfl _ (rZ_f rfl rfl rfl rfl rfl rfl rfl rfl rfl rfl rfl)) hr⟩
    · exact absurd (hk.symm.trans m1) (by decide)
  · rintro E h1 ⟨hk, rfl, rfl⟩
    rcases hm with ⟨m1, m2, m3⟩ | ⟨m1, m2⟩
    · exact absurd m1 hk
    · refine ⟨o'.1, 1, _, rZ_LSa hL, ⟨by rw [m1]; rfl, rfl⟩, ⟨_, c_X11_tap l u (k_pl piM shM _) rfl (k_plI (p := 70) rfl rfl) (k_plI (p := 70) rfl rfl) (k_plI (p := 70) rfl rfl) (k_plA (p := 71) rfl rfl) (k_plA (p := 77) rfl rfl) e2, rfl, rfl, m2⟩, Rel_eq R (rZ_eqB rfl rfl (rZ_f rfl rfl rfl rfl rfl rfl rfl rfl rfl rfl rfl)) hr⟩
def N_22 (u : Nat) (h : k_H) (a1 : Int32) (a2 : Int32) : Prop := ∃ o o', f_X10_moved u (h.2.1 3 0) (h.2.1 3 1) (h.2.1 4) (h.2.1 69) a1 a2 = some o ∧ f_X11_moved u (h.2.1 70 0) (h.2.1 70 25) (h.2.1 70 26) (h.2.1 71) (h.2.1 77) a1 a2 = some o' ∧ ((o.1 = 0 ∧ o'.2.1 = 0 ∧ o.2.1 = o'.1) ∨ (o.1 = 3 ∧ o'.2.1 = 1)) ∧ ∀ k, k < 3 → o.2.2 k = o'.2.2 k
set_option maxRecDepth 40000 in
theorem Q_22 {l : Launch} (hT : l.stackTraces = false) {u : Nat} {S : aT} {h : k_H} (R : Rel S h) {a1 a2 a3 a4 a5 : Int32} (N : N_22 u h a1 a2) : q_22 l h a1 a2 a3 a4 a5 (Rel S) := by
  obtain ⟨o, o', e1, e2, hm, hr⟩ := N
  obtain ⟨rest, hsh⟩ := rZ_CX R.1
  have hL := rZ_CLS R.1
  refine ⟨1, 6, _, _, by decide, by decide, c_X10_moved l u hT h hsh  rfl rfl rfl rfl e1, ?_, ?_⟩
  · rintro v h1 ⟨hk, rfl, rfl⟩
    rcases hm with ⟨m1, m2, m3⟩ | ⟨m1, m2⟩
    · refine ⟨o.2.1, o'.1, _, rfl, rZ_LSa hL, ⟨_, c_X11_moved l u (k_pl piM shM _) rfl (k_plI (p := 70) rfl rfl) (k_plI (p := 70) rfl rfl) (k_plI (p := 70) rfl rfl) (k_plA (p := 71) rfl rfl) (k_plA (p := 77) rfl rfl) e2, rfl, rfl, m2⟩, (show _ = o.2.1.toInt64 from rfl).trans (show o.2.1.toInt64 = o'.1.toInt64 by rw [m3]), Rel_eq R (rZ_eqA rfl rfl _ (rZ_f rfl rfl rfl rfl rfl rfl rfl rfl rfl rfl rfl)) hr⟩
    · exact absurd (hk.symm.trans m1) (by decide)
  · rintro E h1 ⟨hk, rfl, rfl⟩
    rcases hm with ⟨m1, m2, m3⟩ | ⟨m1, m2⟩
    · exact absurd m1 hk
    · refine ⟨o'.1, 1, _, rZ_LSa hL, ⟨by rw [m1]; rfl, rfl⟩, ⟨_, c_X11_moved l u (k_pl piM shM _) rfl (k_plI (p := 70) rfl rfl) (k_plI (p := 70) rfl rfl) (k_plI (p := 70) rfl rfl) (k_plA (p := 71) rfl rfl) (k_plA (p := 77) rfl rfl) e2, rfl, rfl, m2⟩, Rel_eq R (rZ_eqB rfl rfl (rZ_f rfl rfl rfl rfl rfl rfl rfl rfl rfl rfl rfl)) hr⟩
def N_23 (u : Nat) (h : k_H)  : Prop := ∃ o o', f_X10_fits u (h.2.1 3 0) (h.2.1 3 1) (h.2.1 4) (h.2.1 59) = some o ∧ f_X11_fits u (h.2.1 70 0) (h.2.1 70 25) (h.2.1 70 26) (h.2.1 70 54) (h.2.1 77) (h.2.1 96) = some o' ∧ o = o'.1
set_option maxRecDepth 40000 in
theorem Q_23 {l : Launch} (hT : l.stackTraces = false) {u : Nat} {S : aT} {h : k_H} (R : Rel S h) {a1 a2 a3 a4 a5 : Int32} (N : N_23 u h ) : q_23 l h a1 a2 a3 a4 a5 (Rel S) := by
  obtain ⟨o, o', e1, e2, hm⟩ := N
  obtain ⟨rest, hsh⟩ := rZ_CX R.1
  have hL := rZ_CLS R.1
  subst hm
  refine ⟨o'.1, _, [], _, c_X10_fits l u h hsh rfl rfl rfl rfl e1, ⟨_, c_X11_fits l u (k_pl piM shM _) rfl (k_plI (p := 70) rfl rfl) (k_plI (p := 70) rfl rfl) (k_plI (p := 70) rfl rfl) (k_plI (p := 70) rfl rfl) (k_plA (p := 77) rfl rfl) (k_plA (p := 96) rfl rfl) e2, rfl, rfl, rfl⟩, Rel_eq R (rZ_eqB (us := []) rfl rfl (rZ_f rfl rfl rfl rfl rfl rfl rfl rfl rfl rfl rfl)) R.2.2.2.2.2.2.1.1⟩
def N_24 (u : Nat) (h : k_H) (a1 : Int32) : Prop := ∃ o o', f_X10_next u (h.2.1 3 0) (h.2.1 3 1) (h.2.1 4) (h.2.1 59) (h.2.1 69) a1 = some o ∧ f_X11_next_ u (h.2.1 70 0) (h.2.1 70 25) (h.2.1 70 26) (h.2.1 70 54) (h.2.1 71) (h.2.1 77) (h.2.1 96) (h.2.1 100) a1 = some o' ∧ ((o.1 = 0 ∧ o'.2.1 = 0 ∧ o.2.1 = o'.1) ∨ (o.1 = 3 ∧ o'.2.1 = 1)) ∧ ∀ k, k < 3 → o.2.2 k = o'.2.2.1 k
set_option maxRecDepth 40000 in
theorem Q_24 {l : Launch} (hT : l.stackTraces = false) {u : Nat} {S : aT} {h : k_H} (R : Rel S h) {a1 a2 a3 a4 a5 : Int32} (N : N_24 u h a1) : q_24 l h a1 a2 a3 a4 a5 (Rel S) := by
  obtain ⟨o, o', e1, e2, hm, hr⟩ := N
  obtain ⟨rest, hsh⟩ := rZ_CX R.1
  have hL := rZ_CLS R.1
  refine ⟨1, 6, _, _, by decide, by decide, c_X10_next l u hT h hsh  rfl rfl rfl rfl rfl e1, ?_, ?_⟩
  · rintro v h1 ⟨hk, rfl, rfl⟩
    rcases hm with ⟨m1, m2, m3⟩ | ⟨m1, m2⟩
    · refine ⟨o.2.1, o'.1, _, rfl, rZ_LSa hL, ⟨_, c_X11_next_ l u (k_pl piM shM _) rfl (k_plI (p := 70) rfl rfl) (k_plI (p := 70) rfl rfl) (k_plI (p := 70) rfl rfl) (k_plI (p := 70) rfl rfl) (k_plA (p := 71) rfl rfl) (k_plA (p := 77) rfl rfl) (k_plA (p := 96) rfl rfl) (k_plA (p := 100) rfl rfl) e2, rfl, rfl, m2⟩, (show _ = o.2.1.toInt64 from rfl).trans (show o.2.1.toInt64 = o'.1.toInt64 by rw [m3]), Rel_eq R (rZ_eqA rfl rfl _ (rZ_f rfl rfl rfl rfl rfl rfl rfl rfl rfl rfl rfl)) hr⟩
    · exact absurd (hk.symm.trans m1) (by decide)
  · rintro E h1 ⟨hk, rfl, rfl⟩
    rcases hm with ⟨m1, m2, m3⟩ | ⟨m1, m2⟩
    · exact absurd m1 hk
    · refine ⟨o'.1, 1, _, rZ_LSa hL, ⟨by rw [m1]; rfl, rfl⟩, ⟨_, c_X11_next_ l u (k_pl piM shM _) rfl (k_plI (p := 70) rfl rfl) (k_plI (p := 70) rfl rfl) (k_plI (p := 70) rfl rfl) (k_plI (p := 70) rfl rfl) (k_plA (p := 71) rfl rfl) (k_plA (p := 77) rfl rfl) (k_plA (p := 96) rfl rfl) (k_plA (p := 100) rfl rfl) e2, rfl, rfl, m2⟩, Rel_eq R (rZ_eqB rfl rfl (rZ_f rfl rfl rfl rfl rfl rfl rfl rfl rfl rfl rfl)) hr⟩
def N_25 (u : Nat) (h : k_H) (a1 : Int32) (a2 : Int32) (a3 : Int32) : Prop := ∃ o o', f_X10_canon u (h.2.1 3 0) (h.2.1 3 1) (h.2.1 4) (h.2.1 69) a1 a2 a3 = some o ∧ f_X11_canon u (h.2.1 70 0) (h.2.1 70 25) (h.2.1 70 26) (h.2.1 71) (h.2.1 77) a1 a2 a3 = some o' ∧ ((o.1 = 0 ∧ o'.2.1 = 0 ∧ o.2.1 = o'.1) ∨ (o.1 = 3 ∧ o'.2.1 = 1)) ∧ ∀ k, k < 3 → o.2.2 k = o'.2.2 k
set_option maxRecDepth 40000 in
theorem Q_25 {l : Launch} (hT : l.stackTraces = false) {u : Nat} {S : aT} {h : k_H} (R : Rel S h) {a1 a2 a3 a4 a5 : Int32} (N : N_25 u h a1 a2 a3) : q_25 l h a1 a2 a3 a4 a5 (Rel S) := by
  obtain ⟨o, o', e1, e2, hm, hr⟩ := N
  obtain ⟨rest, hsh⟩ := rZ_CX R.1
  have hL := rZ_CLS R.1
  refine ⟨1, 6, _, _, by decide, by decide, c_X10_canon l u hT h hsh  rfl rfl rfl rfl e1, ?_, ?_⟩
  · rintro v h1 ⟨hk, rfl, rfl⟩
    rcases hm with ⟨m1, m2, m3⟩ | ⟨m1, m2⟩
    · refine ⟨o.2.1, o'.1, _, rfl, rZ_LSa hL, ⟨_, c_X11_canon l u (k_pl piM shM _) rfl (k_plI (p := 70) rfl rfl) (k_plI (p := 70) rfl rfl) (k_plI (p := 70) rfl rfl) (k_plA (p := 71) rfl rfl) (k_plA (p := 77) rfl rfl) e2, rfl, rfl, m2⟩, (show _ = o.2.1.toInt64 from rfl).trans (show o.2.1.toInt64 = o'.1.toInt64 by rw [m3]), Rel_eq R (rZ_eqA rfl rfl _ (rZ_f rfl rfl rfl rfl rfl rfl rfl rfl rfl rfl rfl)) hr⟩
    · exact absurd (hk.symm.trans m1) (by decide)
  · rintro E h1 ⟨hk, rfl, rfl⟩
    rcases hm with ⟨m1, m2, m3⟩ | ⟨m1, m2⟩
    · exact absurd m1 hk
    · refine ⟨o'.1, 1, _, rZ_LSa hL, ⟨by rw [m1]; rfl, rfl⟩, ⟨_, c_X11_canon l u (k_pl piM shM _) rfl (k_plI (p := 70) rfl rfl) (k_plI (p := 70) rfl rfl) (k_plI (p := 70) rfl rfl) (k_plA (p := 71) rfl rfl) (k_plA (p := 77) rfl rfl) e2, rfl, rfl, m2⟩, Rel_eq R (rZ_eqB rfl rfl (rZ_f rfl rfl rfl rfl rfl rfl rfl rfl rfl rfl rfl)) hr⟩
def N_26 (u : Nat) (h : k_H) (a1 : Int32) (a2 : Int32) (a3 : Int32) : Prop := ∃ o o', f_X10_owners u (h.2.1 6) (h.2.1 67 1) (h.2.1 67 2) (h.2.1 67 3) (h.2.1 68) (h.2.1 69) a1 a2 a3 = some o ∧ f_X11_owners u (h.2.1 70 0) (h.2.1 71) (h.2.1 79) a1 a2 a3 = some o' ∧ ((o.1 = 0 ∧ o'.2.1 = 0 ∧ o.2.1 = o'.1) ∨ (o.1 = 3 ∧ o'.2.1 = 1)) ∧ ∀ k, k < 3 → o.2.2.2.2.2.2 k = o'.2.2 k
set_option maxRecDepth 40000 in
theorem Q_26 {l : Launch} (hT : l.stackTraces = false) {u : Nat} {S : aT} {h : k_H} (R : Rel S h) {a1 a2 a3 a4 a5 : Int32} (N : N_26 u h a1 a2 a3) : q_26 l h a1 a2 a3 a4 a5 (Rel S) := by
  obtain ⟨o, o', e1, e2, hm, hr⟩ := N
  obtain ⟨rest, hsh⟩ := rZ_CX R.1
  have hL := rZ_CLS R.1
  refine ⟨1, 6, _, _, by decide, by decide, c_X10_owners l u hT h hsh  rfl rfl rfl rfl rfl rfl e1, ?_, ?_⟩
  · rintro v h1 ⟨hk, rfl, rfl⟩
    rcases hm with ⟨m1, m2, m3⟩ | ⟨m1, m2⟩
    · refine ⟨o.2.1, o'.1, _, rfl, rZ_LSa hL, ⟨_, c_X11_owners l u (k_pl piM shM _) rfl (k_plI (p := 70) rfl rfl) (k_plA (p := 71) rfl rfl) (k_plA (p := 79) rfl rfl) e2, rfl, rfl, m2⟩, (show _ = o.2.1.toInt64 from rfl).trans (show o.2.1.toInt64 = o'.1.toInt64 by rw [m3]), Rel_eq R (rZ_eqA rfl rfl _ (rZ_f rfl rfl rfl rfl rfl rfl rfl rfl rfl rfl rfl)) hr⟩
    · exact absurd (hk.symm.trans m1) (by decide)
  · rintro E h1 ⟨hk, rfl, rfl⟩
    rcases hm with ⟨m1, m2, m3⟩ | ⟨m1, m2⟩
    · exact absurd m1 hk
    · refine ⟨o'.1, 1, _, rZ_LSa hL, ⟨by rw [m1]; rfl, rfl⟩, ⟨_, c_X11_owners l u (k_pl piM shM _) rfl (k_plI (p := 70) rfl rfl) (k_plA (p := 71) rfl rfl) (k_plA (p := 79) rfl rfl) e2, rfl, rfl, m2⟩, Rel_eq R (rZ_eqB rfl rfl (rZ_f rfl rfl rfl rfl rfl rfl rfl rfl rfl rfl rfl)) hr⟩
def N_27 (u : Nat) (h : k_H) (a1 : Int32) (a2 : Int32) : Prop := ∃ o o', f_X10_face u (h.2.1 4) (h.2.2.1 26 3) (h.2.2.1 26 4) (h.2.2.1 26 5) (h.2.1 69) a1 a2 = some o ∧ f_X11_face u (h.2.1 70 0) (h.2.1 70 25) (h.2.1 70 26) (h.2.1 71) (h.2.1 77) (h.2.1 90) a1 a2 = some o' ∧ ((o.1 = 0 ∧ o'.2.1 = 0 ∧ o.2.1 = o'.1) ∨ (o.1 = 3 ∧ o'.2.1 = 1)) ∧ ∀ k, k < 3 → o.2.2 k = o'.2.2 k
set_option maxRecDepth 40000 in
theorem Q_27 {l : Launch} (hT : l.stackTraces = false) {u : Nat} {S : aT} {h : k_H} (R : Rel S h) {a1 a2 a3 a4 a5 : Int32} (N : N_27 u h a1 a2) : q_27 l h a1 a2 a3 a4 a5 (Rel S) := by
  obtain ⟨o, o', e1, e2, hm, hr⟩ := N
  obtain ⟨rest, hsh⟩ := rZ_CX R.1
  have hL := rZ_CLS R.1
  refine ⟨1, 6, _, _, by decide, by decide, c_X10_face l u hT h hsh  rfl rfl rfl rfl rfl e1, ?_, ?_⟩
  · rintro v h1 ⟨hk, rfl, rfl⟩
    rcases hm with ⟨m1, m2, m3⟩ | ⟨m1, m2⟩
    · refine ⟨o.2.1, o'.1, _, rfl, rZ_LSa hL, ⟨_, c_X11_face l u (k_pl piM shM _) rfl (k_plI (p := 70) rfl rfl) (k_plI (p := 70) rfl rfl) (k_plI (p := 70) rfl rfl) (k_plA (p := 71) rfl rfl) (k_plA (p := 77) rfl rfl) (k_plA (p := 90) rfl rfl) e2, rfl, rfl, m2⟩, (show _ = o.2.1.toInt64 from rfl).trans (show o.2.1.toInt64 = o'.1.toInt64 by rw [m3]), Rel_eq R (rZ_eqA rfl rfl _ (rZ_f rfl rfl rfl rfl rfl rfl rfl rfl rfl rfl rfl)) hr⟩
    · exact absurd (hk.symm.trans m1) (by decide)
  · rintro E h1 ⟨hk, rfl, rfl⟩
    rcases hm with ⟨m1, m2, m3⟩ | ⟨m1, m2⟩
    · exact absurd m1 hk
    · refine ⟨o'.1, 1, _, rZ_LSa hL, ⟨by rw [m1]; rfl, rfl⟩, ⟨_, c_X11_face l u (k_pl piM shM _) rfl (k_plI (p := 70) rfl rfl) (k_plI (p := 70) rfl rfl) (k_plI (p := 70) rfl rfl) (k_plA (p := 71) rfl rfl) (k_plA (p := 77) rfl rfl) (k_plA (p := 90) rfl rfl) e2, rfl, rfl, m2⟩, Rel_eq R (rZ_eqB rfl rfl (rZ_f rfl rfl rfl rfl rfl rfl rfl rfl rfl rfl rfl)) hr⟩
def N_28 (u : Nat) (h : k_H)  : Prop := ∃ o o', f_X10_level u (h.2.1 3 1) (h.2.1 5) (h.2.2.1 26 3) (h.2.2.1 26 4) (h.2.2.1 26 5) = some o ∧ f_X11_level u (h.2.1 70 0) (h.2.1 70 25) (h.2.1 70 26) (h.2.1 78) (h.2.1 90) (h.2.1 91) = some o' ∧ o = o'.1
set_option maxRecDepth 40000 in
theorem Q_28 {l : Launch} (hT : l.stackTraces = false) {u : Nat} {S : aT} {h : k_H} (R : Rel S h) {a1 a2 a3 a4 a5 : Int32} (N : N_28 u h ) : q_28 l h a1 a2 a3 a4 a5 (Rel S) := by
  obtain ⟨o, o', e1, e2, hm⟩ := N
  obtain ⟨rest, hsh⟩ := rZ_CX R.1
  have hL := rZ_CLS R.1
  subst hm
  refine ⟨o'.1, _, [], _, c_X10_level l u h hsh rfl rfl rfl rfl rfl e1, ⟨_, c_X11_level l u (k_pl piM shM _) rfl (k_plI (p := 70) rfl rfl) (k_plI (p := 70) rfl rfl) (k_plI (p := 70) rfl rfl) (k_plA (p := 78) rfl rfl) (k_plA (p := 90) rfl rfl) (k_plA (p := 91) rfl rfl) e2, rfl, rfl, rfl⟩, Rel_eq R (rZ_eqB (us := []) rfl rfl (rZ_f rfl rfl rfl rfl rfl rfl rfl rfl rfl rfl rfl)) R.2.2.2.2.2.2.1.1⟩
def N_29 (u : Nat) (h : k_H)  : Prop := ∃ o o', f_X10_pick u (h.2.2.1 3 5) (h.2.2.1 3 6) (h.2.1 4) (h.2.1 5) (h.2.1 26 15) (h.2.2.1 26 3) (h.2.2.1 26 4) (h.2.2.1 26 5) = some o ∧ f_X11_pick u (h.2.1 70 0) (h.2.1 70 25) (h.2.1 70 26) (h.2.1 70 27) (h.2.1 77) (h.2.1 78) (h.2.1 90) (h.2.1 91) = some o' ∧ o = o'.1
set_option maxRecDepth 40000 in
theorem Q_29 {l : Launch} (hT : l.stackTraces = false) {u : Nat} {S : aT} {h : k_H} (R : Rel S h) {a1 a2 a3 a4 a5 : Int32} (N : N_29 u h ) : q_29 l h a1 a2 a3 a4 a5 (Rel S) := by
  obtain ⟨o, o', e1, e2, hm⟩ := N
  obtain ⟨rest, hsh⟩ := rZ_CX R.1
  have hL := rZ_CLS R.1
  subst hm
  refine ⟨o'.1, _, [], _, c_X10_pick l u h hsh rfl rfl rfl rfl rfl rfl rfl rfl e1, ⟨_, c_X11_pick l u (k_pl piM shM _) rfl (k_plI (p := 70) rfl rfl) (k_plI (p := 70) rfl rfl) (k_plI (p := 70) rfl rfl) (k_plI (p := 70) rfl rfl) (k_plA (p := 77) rfl rfl) (k_plA (p := 78) rfl rfl) (k_plA (p := 90) rfl rfl) (k_plA (p := 91) rfl rfl) e2, rfl, rfl, rfl⟩, Rel_eq R (rZ_eqB (us := []) rfl rfl (rZ_f rfl rfl rfl rfl rfl rfl rfl rfl rfl rfl rfl)) R.2.2.2.2.2.2.1.1⟩
def N_30 (u : Nat) (h : k_H) (a1 : Int32) (a2 : Int32) (a3 : Int32) (a4 : Int32) : Prop := ∃ o o', f_X10_decade u (h.2.1 3 8) (h.2.1 3 10) (h.2.2.1 3 5) (h.2.2.1 3 6) (h.2.1 4) (h.2.1 5) (h.2.1 6) (h.2.1 7) (h.2.1 8) (h.2.1 9) (h.2.1 17 2) (h.2.1 18) (h.2.1 19) (h.2.1 20 2) (h.2.1 21) (h.2.1 22) (h.2.1 26 10) (h.2.1 26 11) (h.2.1 26 12) (h.2.1 26 13) (h.2.1 26 14) (h.2.1 26 15) (h.2.1 26 16) (h.2.1 26 17) (h.2.2.1 26 3) (h.2.2.1 26 4) (h.2.2.1 26 5) (h.2.1 27) (h.2.1 28) (h.2.1 29) (h.2.1 30) (h.2.1 61 1) (h.2.1 61 2) (h.2.1 61 3) (h.2.1 61 4) (h.2.1 62 10) (h.2.1 62 11) (h.2.1 62 12) (h.2.1 62 13) (h.2.1 62 14) (h.2.1 62 15) (h.2.1 62 16) (h.2.1 62 17) (h.2.2.1 62 3) (h.2.2.1 62 4) (h.2.2.1 62 5) (h.2.1 63) (h.2.1 64) (h.2.1 65) (h.2.1 66) (h.2.1 69) a1 a2 a3 a4 = some o ∧ f_X11_decade u (h.2.1 70 0) (h.2.1 70 25) (h.2.1 70 26) (h.2.1 70 27) (h.2.1 70 28) (h.2.1 70 30) (h.2.1 70 62) (h.2.1 70 63) (h.2.1 71) (h.2.1 77) (h.2.1 78) (h.2.1 79) (h.2.1 80) (h.2.1 83) (h.2.1 84) (h.2.1 85) (h.2.1 86) (h.2.1 87) (h.2.1 90) (h.2.1 91) (h.2.1 93) (h.2.1 94) a1 a2 a3 a4 = some o' ∧ ((o.1 = 0 ∧ o'.2.1 = 0 ∧ o.2.1 = o'.1) ∨ (o.1 = 3 ∧ o'.2.1 = 1)) ∧ ∀ k, k < 3 → o.2.2.2.2.2.2.2.2.2.2.2.2.2.2.2.2.2.2.2.2.2.2.2 k = o'.2.2.2.2.1 k
set_option maxRecDepth 40000 in
theorem Q_30 {l : Launch} (hT : l.stackTraces = false) {u : Nat} {S : aT} {h : k_H} (R : Rel S h) {a1 a2 a3 a4 a5 : Int32} (N : N_30 u h a1 a2 a3 a4) : q_30 l h a1 a2 a3 a4 a5 (Rel S) := by
  obtain ⟨o, o', e1, e2, hm, hr⟩ := N
  obtain ⟨rest, hsh⟩ := rZ_CX R.1
  have hL := rZ_CLS R.1
  refine ⟨1, 6, _, _, by decide, by decide, c_X10_decade l u hT h hsh  rfl rfl rfl rfl rfl rfl rfl rfl rfl rfl rfl rfl rfl rfl rfl rfl rfl rfl rfl rfl rfl rfl rfl rfl rfl rfl rfl rfl rfl rfl rfl rfl rfl rfl rfl rfl rfl rfl rfl rfl rfl rfl rfl rfl rfl rfl rfl rfl rfl rfl rfl e1, ?_, ?_⟩
  · rintro v h1 ⟨hk, rfl, rfl⟩
    rcases hm with ⟨m1, m2, m3⟩ | ⟨m1, m2⟩
    · refine ⟨o.2.1, o'.1, _, rfl, rZ_LSa hL, ⟨_, c_X11_decade l u (k_pl piM shM _) rfl (k_plI (p := 70) rfl rfl) (k_plI (p := 70) rfl rfl) (k_plI (p := 70) rfl rfl) (k_plI (p := 70) rfl rfl) (k_plI (p := 70) rfl rfl) (k_plI (p := 70) rfl rfl) (k_plI (p := 70) rfl rfl) (k_plI (p := 70) rfl rfl) (k_plA (p := 71) rfl rfl) (k_plA (p := 77) rfl rfl) (k_plA (p := 78) rfl rfl) (k_plA (p := 79) rfl rfl) (k_plA (p := 80) rfl rfl) (k_plA (p := 83) rfl rfl) (k_plA (p := 84) rfl rfl) (k_plA (p := 85) rfl rfl) (k_plA (p := 86) rfl rfl) (k_plA (p := 87) rfl rfl) (k_plA (p := 90) rfl rfl) (k_plA (p := 91) rfl rfl) (k_plA (p := 93) rfl rfl) (k_plA (p := 94) rfl rfl) e2, rfl, rfl, m2⟩, (show _ = o.2.1.toInt64 from rfl).trans (show o.2.1.toInt64 = o'.1.toInt64 by rw [m3]), Rel_eq R (rZ_eqA rfl rfl _ (rZ_f rfl rfl rfl rfl rfl rfl rfl rfl rfl rfl rfl)) hr⟩
    · exact absurd (hk.symm.trans m1) (by decide)
  · rintro E h1 ⟨hk, rfl, rfl⟩
    rcases hm with ⟨m1, m2, m3⟩ | ⟨m1, m2⟩
    · exact absurd m1 hk
    · refine ⟨o'.1, 1, _, rZ_LSa hL, ⟨by rw [m1]; rfl, rfl⟩, ⟨_, c_X11_decade l u (k_pl piM shM _) rfl (k_plI (p := 70) rfl rfl) (k_plI (p := 70) rfl rfl) (k_plI (p := 70) rfl rfl) (k_plI (p := 70) rfl rfl) (k_plI (p := 70) rfl rfl) (k_plI (p := 70) rfl rfl) (k_plI (p := 70) rfl rfl) (k_plI (p := 70) rfl rfl) (k_plA (p := 71) rfl rfl) (k_plA (p := 77) rfl rfl) (k_plA (p := 78) rfl rfl) (k_plA (p := 79) rfl rfl) (k_plA (p := 80) rfl rfl) (k_plA (p := 83) rfl rfl) (k_plA (p := 84) rfl rfl) (k_plA (p := 85) rfl rfl) (k_plA (p := 86) rfl rfl) (k_plA (p := 87) rfl rfl) (k_plA (p := 90) rfl rfl) (k_plA (p := 91) rfl rfl) (k_plA (p := 93) rfl rfl) (k_plA (p := 94) rfl rfl) e2, rfl, rfl, m2⟩, Rel_eq R (rZ_eqB rfl rfl (rZ_f rfl rfl rfl rfl rfl rfl rfl rfl rfl rfl rfl)) hr⟩
def N_31 (u : Nat) (h : k_H) (a1 : Int32) (a2 : Int32) (a3 : Int32) (a4 : Int32) (a5 : Int32) : Prop := ∃ o o', f_X10_span u (h.2.1 3 8) (h.2.1 3 10) (h.2.2.1 3 5) (h.2.2.1 3 6) (h.2.1 4) (h.2.1 5) (h.2.1 6) (h.2.1 7) (h.2.1 8) (h.2.1 9) (h.2.1 17 2) (h.2.1 18) (h.2.1 19) (h.2.1 20 2) (h.2.1 21) (h.2.1 22) (h.2.1 26 10) (h.2.1 26 11) (h.2.1 26 12) (h.2.1 26 13) (h.2.1 26 14) (h.2.1 26 15) (h.2.1 26 16) (h.2.1 26 17) (h.2.2.1 26 3) (h.2.2.1 26 4) (h.2.2.1 26 5) (h.2.1 27) (h.2.1 28) (h.2.1 29) (h.2.1 30) (h.2.1 61 1) (h.2.1 61 2) (h.2.1 61 3) (h.2.1 61 4) (h.2.1 62 10) (h.2.1 62 11) (h.2.1 62 12) (h.2.1 62 13) (h.2.1 62 14) (h.2.1 62 15) (h.2.1 62 16) (h.2.1 62 17) (h.2.2.1 62 3) (h.2.2.1 62 4) (h.2.2.1 62 5) (h.2.1 63) (h.2.1 64) (h.2.1 65) (h.2.1 66) (h.2.1 69) a1 a2 a3 a4 a5 = some o ∧ f_X11_span u (h.2.1 70 0) (h.2.1 70 25) (h.2.1 70 26) (h.2.1 70 27) (h.2.1 70 28) (h.2.1 70 30) (h.2.1 70 62) (h.2.1 70 63) (h.2.1 71) (h.2.1 77) (h.2.1 78) (h.2.1 79) (h.2.1 80) (h.2.1 83) (h.2.1 84) (h.2.1 85) (h.2.1 86) (h.2.1 87) (h.2.1 90) (h.2.1 91) (h.2.1 93) (h.2.1 94) a1 a2 a3 a4 a5 = some o' ∧ ((o.1 = 0 ∧ o'.2.1 = 0 ∧ o.2.1 = o'.1) ∨ (o.1 = 3 ∧ o'.2.1 = 1)) ∧ ∀ k, k < 3 → o.2.2.2.2.2.2.2.2.2.2.2.2.2.2.2.2.2.2.2.2.2.2.2 k = o'.2.2.2.2.1 k
set_option maxRecDepth 40000 in
theorem Q_31 {l : Launch} (hT : l.stackTraces = false) {u : Nat} {S : aT} {h : k_H} (R : Rel S h) {a1 a2 a3 a4 a5 : Int32} (N : N_31 u h a1 a2 a3 a4 a5) : q_31 l h a1 a2 a3 a4 a5 (Rel S) := by
  obtain ⟨o, o', e1, e2, hm, hr⟩ := N
  obtain ⟨rest, hsh⟩ := rZ_CX R.1
  have hL := rZ_CLS R.1
  refine ⟨1, 6, _, _, by decide, by decide, c_X10_span l u hT h hsh  rfl rfl rfl rfl rfl rfl rfl rfl rfl rfl rfl rfl rfl rfl rfl rfl rfl rfl rfl rfl rfl rfl rfl rfl rfl rfl rfl rfl rfl rfl rfl rfl rfl rfl rfl rfl rfl rfl rfl rfl rfl rfl rfl rfl rfl rfl rfl rfl rfl rfl rfl e1, ?_, ?_⟩
  · rintro v h1 ⟨hk, rfl, rfl⟩
    rcases hm with ⟨m1, m2, m3⟩ | ⟨m1, m2⟩
    · refine ⟨o.2.1, o'.1, _, rfl, rZ_LSa hL, ⟨_, c_X11_span l u (k_pl piM shM _) rfl (k_plI (p := 70) rfl rfl) (k_plI (p := 70) rfl rfl) (k_plI (p := 70) rfl rfl) (k_plI (p := 70) rfl rfl) (k_plI (p := 70) rfl rfl) (k_plI (p := 70) rfl rfl) (k_plI (p := 70) rfl rfl) (k_plI (p := 70) rfl rfl) (k_plA (p := 71) rfl rfl) (k_plA (p := 77) rfl rfl) (k_plA (p := 78) rfl rfl) (k_plA (p := 79) rfl rfl) (k_plA (p := 80) rfl rfl) (k_plA (p := 83) rfl rfl) (k_plA (p := 84) rfl rfl) (k_plA (p := 85) rfl rfl) (k_plA (p := 86) rfl rfl) (k_plA (p := 87) rfl rfl) (k_plA (p := 90) rfl rfl) (k_plA (p := 91) rfl rfl) (k_plA (p := 93) rfl rfl) (k_plA (p := 94) rfl rfl) e2, rfl, rfl, m2⟩, (show _ = o.2.1.toInt64 from rfl).trans (show o.2.1.toInt64 = o'.1.toInt64 by rw [m3]), Rel_eq R (rZ_eqA rfl rfl _ (rZ_f rfl rfl rfl rfl rfl rfl rfl rfl rfl rfl rfl)) hr⟩
    · exact absurd (hk.symm.trans m1) (by decide)
  · rintro E h1 ⟨hk, rfl, rfl⟩
    rcases hm with ⟨m1, m2, m3⟩ | ⟨m1, m2⟩
    · exact absurd m1 hk
    · refine ⟨o'.1, 1, _, rZ_LSa hL, ⟨by rw [m1]; rfl, rfl⟩, ⟨_, c_X11_span l u (k_pl piM shM _) rfl (k_plI (p := 70) rfl rfl) (k_plI (p := 70) rfl rfl) (k_plI (p := 70) rfl rfl) (k_plI (p := 70) rfl rfl) (k_plI (p := 70) rfl rfl) (k_plI (p := 70) rfl rfl) (k_plI (p := 70) rfl rfl) (k_plI (p := 70) rfl rfl) (k_plA (p := 71) rfl rfl) (k_plA (p := 77) rfl rfl) (k_plA (p := 78) rfl rfl) (k_plA (p := 79) rfl rfl) (k_plA (p := 80) rfl rfl) (k_plA (p := 83) rfl rfl) (k_plA (p := 84) rfl rfl) (k_plA (p := 85) rfl rfl) (k_plA (p := 86) rfl rfl) (k_plA (p := 87) rfl rfl) (k_plA (p := 90) rfl rfl) (k_plA (p := 91) rfl rfl) (k_plA (p := 93) rfl rfl) (k_plA (p := 94) rfl rfl) e2, rfl, rfl, m2⟩, Rel_eq R (rZ_eqB rfl rfl (rZ_f rfl rfl rfl rfl rfl rfl rfl rfl rfl rfl rfl)) hr⟩
def N_32 (u : Nat) (h : k_H) (a1 : Int32) : Prop := ∃ o o', f_X10_sums u (h.2.2.1 3 5) (h.2.2.1 3 6) (h.2.1 26 16) (h.2.1 26 17) (h.2.2.1 26 3) (h.2.2.1 26 4) (h.2.1 69) a1 = some o ∧ f_X11_sums u (h.2.1 70 0) (h.2.1 70 25) (h.2.1 70 26) (h.2.1 70 27) (h.2.1 71) (h.2.1 90) (h.2.1 91) a1 = some o' ∧ ((o.1 = 0 ∧ o'.2.1 = 0 ∧ o.2.1 = o'.1) ∨ (o.1 = 3 ∧ o'.2.1 = 1)) ∧ ∀ k, k < 3 → o.2.2 k = o'.2.2.1 k
set_option maxRecDepth 40000 in
theorem Q_32 {l : Launch} (hT : l.stackTraces = false) {u : Nat} {S : aT} {h : k_H} (R : Rel S h) {a1 a2 a3 a4 a5 : Int32} (N : N_32 u h a1) : q_32 l h a1 a2 a3 a4 a5 (Rel S) := by
  obtain ⟨o, o', e1, e2, hm, hr⟩ := N
  obtain ⟨rest, hsh⟩ := rZ_CX R.1
  have hL := rZ_CLS R.1
  refine ⟨1, 6, _, _, by decide, by decide, c_X10_sums l u hT h hsh  rfl rfl rfl rfl rfl rfl rfl e1, ?_, ?_⟩
  · rintro v h1 ⟨hk, rfl, rfl⟩
    rcases hm with ⟨m1, m2, m3⟩ | ⟨m1, m2⟩
    · refine ⟨o.2.1, o'.1, _, rfl, rZ_LSa hL, ⟨_, c_X11_sums l u (k_pl piM shM _) rfl (k_plI (p := 70) rfl rfl) (k_plI (p := 70) rfl rfl) (k_plI (p := 70) rfl rfl) (k_plI (p := 70) rfl rfl) (k_plA (p := 71) rfl rfl) (k_plA (p := 90) rfl rfl) (k_plA (p := 91) rfl rfl) e2, rfl, rfl, m2⟩, (show _ = o.2.1.toInt64 from rfl).trans (show o.2.1.toInt64 = o'.1.toInt64 by rw [m3]), Rel_eq R (rZ_eqA rfl rfl _ (rZ_f rfl rfl rfl rfl rfl rfl rfl rfl rfl rfl rfl)) hr⟩
    · exact absurd (hk.symm.trans m1) (by decide)
  · rintro E h1 ⟨hk, rfl, rfl⟩
    rcases hm with ⟨m1, m2, m3⟩ | ⟨m1, m2⟩
    · exact absurd m1 hk
    · refine ⟨o'.1, 1, _, rZ_LSa hL, ⟨by rw [m1]; rfl, rfl⟩, ⟨_, c_X11_sums l u (k_pl piM shM _) rfl (k_plI (p := 70) rfl rfl) (k_plI (p := 70) rfl rfl) (k_plI (p := 70) rfl rfl) (k_plI (p := 70) rfl rfl) (k_plA (p := 71) rfl rfl) (k_plA (p := 90) rfl rfl) (k_plA (p := 91) rfl rfl) e2, rfl, rfl, m2⟩, Rel_eq R (rZ_eqB rfl rfl (rZ_f rfl rfl rfl rfl rfl rfl rfl rfl rfl rfl rfl)) hr⟩
def N_33 (u : Nat) (h : k_H) (a1 : Int32) : Prop := ∃ o o', f_X10_open u (h.2.1 3 1) (h.2.2.1 26 3) (h.2.2.1 26 4) (h.2.1 69) a1 = some o ∧ f_X11_open u (h.2.1 70 0) (h.2.1 70 25) (h.2.1 70 26) (h.2.1 71) (h.2.1 90) (h.2.1 91) a1 = some o' ∧ ((o.1 = 0 ∧ o'.2.1 = 0 ∧ o.2.1 = o'.1) ∨ (o.1 = 3 ∧ o'.2.1 = 1)) ∧ ∀ k, k < 3 → o.2.2 k = o'.2.2.1 k
set_option maxRecDepth 40000 in
theorem Q_33 {l : Launch} (hT : l.stackTraces = false) {u : Nat} {S : aT} {h : k_H} (R : Rel S h) {a1 a2 a3 a4 a5 : Int32} (N : N_33 u h a1) : q_33 l h a1 a2 a3 a4 a5 (Rel S) := by
  obtain ⟨o, o', e1, e2, hm, hr⟩ := N
  obtain ⟨rest, hsh⟩ := rZ_CX R.1
  have hL := rZ_CLS R.1
  refine ⟨1, 6, _, _, by decide, by decide, c_X10_open l u hT h hsh  rfl rfl rfl rfl e1, ?_, ?_⟩
  · rintro v h1 ⟨hk, rfl, rfl⟩
    rcases hm with ⟨m1, m2, m3⟩ | ⟨m1, m2⟩
    · refine ⟨o.2.1, o'.1, _, rfl, rZ_LSa hL, ⟨_, c_X11_open l u (k_pl piM shM _) rfl (k_plI (p := 70) rfl rfl) (k_plI (p := 70) rfl rfl) (k_plI (p := 70) rfl rfl) (k_plA (p := 71) rfl rfl) (k_plA (p := 90) rfl rfl) (k_plA (p := 91) rfl rfl) e2, rfl, rfl, m2⟩, (show _ = o.2.1.toInt64 from rfl).trans (show o.2.1.toInt64 = o'.1.toInt64 by rw [m3]), Rel_eq R (rZ_eqA rfl rfl _ (rZ_f rfl rfl rfl rfl rfl rfl rfl rfl rfl rfl rfl)) hr⟩
    · exact absurd (hk.symm.trans m1) (by decide)
  · rintro E h1 ⟨hk, rfl, rfl⟩
    rcases hm with ⟨m1, m2, m3⟩ | ⟨m1, m2⟩
    · exact absurd m1 hk
    · refine ⟨o'.1, 1, _, rZ_LSa hL, ⟨by rw [m1]; rfl, rfl⟩, ⟨_, c_X11_open l u (k_pl piM shM _) rfl (k_plI (p := 70) rfl rfl) (k_plI (p := 70) rfl rfl) (k_plI (p := 70) rfl rfl) (k_plA (p := 71) rfl rfl) (k_plA (p := 90) rfl rfl) (k_plA (p := 91) rfl rfl) e2, rfl, rfl, m2⟩, Rel_eq R (rZ_eqB rfl rfl (rZ_f rfl rfl rfl rfl rfl rfl rfl rfl rfl rfl rfl)) hr⟩
def N_36 (u : Nat) (h : k_H) (a1 : Int32) : Prop := ∃ o o', f_X10_status u (h.2.1 69) a1 = some o ∧ f_X11_status u (h.2.1 70 0) (h.2.1 71) a1 = some o' ∧ o = o'.1
set_option maxRecDepth 40000 in
theorem Q_36 {l : Launch} (hT : l.stackTraces = false) {u : Nat} {S : aT} {h : k_H} (R : Rel S h) {a1 a2 a3 a4 a5 : Int32} (N : N_36 u h a1) : q_36 l h a1 a2 a3 a4 a5 (Rel S) := by
  obtain ⟨o, o', e1, e2, hm⟩ := N
  obtain ⟨rest, hsh⟩ := rZ_CX R.1
  have hL := rZ_CLS R.1
  subst hm
  refine ⟨o'.1, _, [], _, c_X10_status l u h hsh rfl e1, ⟨_, c_X11_status l u (k_pl piM shM _) rfl (k_plI (p := 70) rfl rfl) (k_plA (p := 71) rfl rfl) e2, rfl, rfl, rfl⟩, Rel_eq R (rZ_eqB (us := []) rfl rfl (rZ_f rfl rfl rfl rfl rfl rfl rfl rfl rfl rfl rfl)) R.2.2.2.2.2.2.1.1⟩
def N_37 (u : Nat) (h : k_H) (a1 : Int32) : Prop := ∃ o o', f_X10_count u (h.2.1 1 1) (h.2.1 35 1) (h.2.1 35 5) a1 = some o ∧ f_X11_count u (h.2.1 70 0) (h.2.1 70 2) (h.2.1 70 42) (h.2.1 70 65) a1 = some o' ∧ o = o'.1
set_option maxRecDepth 40000 in
theorem Q_37 {l : Launch} (hT : l.stackTraces = false) {u : Nat} {S : aT} {h : k_H} (R : Rel S h) {a1 a2 a3 a4 a5 : Int32} (N : N_37 u h a1) : q_37 l h a1 a2 a3 a4 a5 (Rel S) := by
  obtain ⟨o, o', e1, e2, hm⟩ := N
  obtain ⟨rest, hsh⟩ := rZ_CX R.1
  have hL := rZ_CLS R.1
  subst hm
  refine ⟨o'.1, _, [], _, c_X10_count l u h hsh rfl rfl rfl e1, ⟨_, c_X11_count l u (k_pl piM shM _) rfl (k_plI (p := 70) rfl rfl) (k_plI (p := 70) rfl rfl) (k_plI (p := 70) rfl rfl) (k_plI (p := 70) rfl rfl) e2, rfl, rfl, rfl⟩, Rel_eq R (rZ_eqB (us := []) rfl rfl (rZ_f rfl rfl rfl rfl rfl rfl rfl rfl rfl rfl rfl)) R.2.2.2.2.2.2.1.1⟩
