/-! WORK: the reference's run, called -/
section SUA
variable {u : Nat} {p : aP} {LF LH : (Nat → Int32) → Int32}
theorem m_runB (P : pOK p) (hu : 160 ≤ u) {c25 c26 c27 c28 c30 : Int32} {a7 a8 a9 a10 a13 a14 a15 st : Nat → Int32} (E : mPit p c25 c26 c27 c28 c30 a7 a8 a9 a10) (L : lawM 0 a13 a14 a15 LF) (L2 : lawM 1 a13 a14 a15 LH) (hc1 : lcong LF) (hc2 : lcong LH) {Q A I : Nat → Nat} (h1 : stR Q A I 30 st) {f k : Nat} (w : wfB p Q A I f 0 0 k) (hk : k ≤ 30) {m : aM} (I0 : mOK p m) {g : Nat → Int32} (X : mMine m g) (a16 a17 a23 a24 : Nat → Int32) :
    ∃ o : tM, f_X11_goesSteps_r u 9 c25 c26 c27 c28 c30 (0 : Int32) (0 : Int32) (0 : Int32) a7 a8 a9 a10 a13 a14 a15 a16 a17 st g a23 a24 (0 : Int32) (nI (3 * k)) = some o ∧ o.2.1 = nI (exB LF LH p Q A I f 0 k (m, 0, 0, 0)).2.2.1 ∧ o.2.2.1 = nI (exB LF LH p Q A I f 0 k (m, 0, 0, 0)).2.2.2 ∧ mOK p (exB LF LH p Q A I f 0 k (m, 0, 0, 0)).1 ∧ mMine (exB LF LH p Q A I f 0 k (m, 0, 0, 0)).1 o.2.2.2.2.2.1 := by
  obtain ⟨o, e, k1, k2, k3, k4, k5, k6⟩ := mrun (u := u) P E L L2 hc1 hc2 hu h1 f 0 0 k w hk (by omega) 8 (by omega) u (m, 0, 0, 0) ((0 : Int32), (0 : Int32), (0 : Int32), a16, a17, g, a23, a24) (by omega) ⟨I0, by show 0 ≤ 200; omega, rfl, rfl, rfl, X⟩
  have e2 : f_X11_goesSteps_r u 9 c25 c26 c27 c28 c30 (0 : Int32) (0 : Int32) (0 : Int32) a7 a8 a9 a10 a13 a14 a15 a16 a17 st g a23 a24 (0 : Int32) (nI (3 * k)) = some o := e
  exact ⟨o, e2, k4, k5, k1, k6⟩
end SUA
