/-! what is read keeps its bounds -/
theorem s_N_le {n : Nat} {T : Nat → Nat} {lo hi : Nat} (x : sT) : (s_N n T lo hi x).1 ≤ hi := by
  cases x with
  | inl a =>
    by_cases c : n_ok n T lo hi a
    · rw [s_N_t c]; exact c.2.2
    · rw [s_N_f c]; exact Nat.zero_le _
  | inr q => exact Nat.zero_le _
theorem s_N_ge {n : Nat} {T : Nat → Nat} {lo hi : Nat} {x : sT} (h : (s_N n T lo hi x).2.isLeft = true) : lo ≤ (s_N n T lo hi x).1 := by
  cases x with
  | inl a =>
    by_cases c : n_ok n T lo hi a
    · rw [s_N_t c]; exact c.2.1
    · rw [s_N_f c] at h; cases h
  | inr q => cases h
theorem s_B_l {n : Nat} {T : Nat → Nat} {c : Nat} {x : sT} (h : (s_B n T c x).isLeft = true) : x.isLeft = true := by
  cases x with
  | inl a => rfl
  | inr q => cases h
theorem s_N_l {n : Nat} {T : Nat → Nat} {lo hi : Nat} {x : sT} (h : (s_N n T lo hi x).2.isLeft = true) : x.isLeft = true := by
  cases x with
  | inl a => rfl
  | inr q => cases h
theorem HV.hth {u : hw} {f k b p g : Nat → Nat} {v : Nat} (hV : HV u f k b p g) (h3 : u 3 = 0) (h2 : u 2 < 8) : HV (va_up (va_up u (5 + u 2) v) 2 (u 2 + 1)) (va_up f (u 2) v) k b p g := by
  unfold HV
  rw [up_at, up_ne (show 3 ≠ 2 by omega), up_ne (show 3 ≠ 5 + u 2 by omega)]
  refine ⟨fun i hi => ?_, fun q hq => by omega⟩
  rw [up_ne (show 5 + i ≠ 2 by omega)]
  by_cases e : i = u 2
  · rw [e, up_at, up_at]
  · rw [up_ne e, up_ne (by omega)]
    exact hV.1 i (by omega)
theorem HC.hth {h : jH} {u : hw} {f k b p g z : Nat → Nat} {v : Nat} (d : h[6]? = some (jO 3 [.int (nI (u 4)), .int (nI (u 0)), .int (nI (u 1)), .int (nI (u 2 + 1)), .int (nI (u 3)), .ref 7, .ref 8, .ref 9, .ref 10, .ref 11, .ref 12])) (hF : h[7]? = some (jN 8 f)) (hK : h[8]? = some (jN 7 k)) (hR : h[9]? = some (jN 7 b)) (hP : h[10]? = some (jN 7 p)) (hG : h[11]? = some (jN 7 g)) (hZ : h[12]? = some (jN 8 z)) : HC h 6 (va_up (va_up u (5 + u 2) v) 2 (u 2 + 1)) f k b p g z := by
  unfold HC
  rw [up_at, up_ne (show 4 ≠ 2 by omega), up_ne (show 4 ≠ 5 + u 2 by omega), up_ne (show 0 ≠ 2 by omega), up_ne (show 0 ≠ 5 + u 2 by omega), up_ne (show 1 ≠ 2 by omega), up_ne (show 1 ≠ 5 + u 2 by omega), up_ne (show 3 ≠ 2 by omega), up_ne (show 3 ≠ 5 + u 2 by omega)]
  exact ⟨d, hF, hK, hR, hP, hG, hZ⟩
theorem s_pw_lo {u : hw} {kd v1 v2 v3 k : Nat} (hk : k < 13) (h3 : k ≠ 3) : s_pw u kd v1 v2 v3 k = u k := by
  unfold s_pw
  rw [up_ne h3, up_ne (by omega), up_ne (by omega), up_ne (by omega), up_ne (by omega)]
theorem s_pw_3 {u : hw} {kd v1 v2 v3 : Nat} : s_pw u kd v1 v2 v3 3 = u 3 + 1 := by unfold s_pw; rw [up_at]
theorem s_pw_at {u : hw} {kd v1 v2 v3 : Nat} : s_pw u kd v1 v2 v3 (13 + 4 * u 3) = kd ∧ s_pw u kd v1 v2 v3 (13 + 4 * u 3 + 1) = v1 ∧ s_pw u kd v1 v2 v3 (13 + 4 * u 3 + 2) = v2 ∧ s_pw u kd v1 v2 v3 (13 + 4 * u 3 + 3) = v3 := by
  unfold s_pw
  refine ⟨?_, ?_, ?_, ?_⟩
  · rw [up_ne (by omega), up_ne (by omega), up_ne (by omega), up_ne (by omega), up_at]
  · rw [up_ne (by omega), up_ne (by omega), up_ne (by omega), up_at]
  · rw [up_ne (by omega), up_ne (by omega), up_at]
  · rw [up_ne (by omega), up_at]
theorem s_pw_o {u : hw} {kd v1 v2 v3 q j : Nat} (hq : q < u 3) (hj : j < 4) : s_pw u kd v1 v2 v3 (13 + 4 * q + j) = u (13 + 4 * q + j) := by
  unfold s_pw
  rw [up_ne (by omega), up_ne (by omega), up_ne (by omega), up_ne (by omega), up_ne (by omega)]
theorem HV.pw {u : hw} {f k b p g : Nat → Nat} {kd v1 v2 v3 : Nat} (hV : HV u f k b p g) (h2 : u 2 ≤ 8) : HV (s_pw u kd v1 v2 v3) f (va_up k (u 3) kd) (va_up b (u 3) v1) (va_up p (u 3) v2) (va_up g (u 3) v3) := by
  unfold HV
  rw [s_pw_3, s_pw_lo (by omega) (by omega)]
  refine ⟨fun i hi => by rw [s_pw_lo (by omega) (by omega)]; exact hV.1 i hi, fun q hq => ?_⟩
  by_cases e : q = u 3
  · have a := s_pw_at (u := u) (kd := kd) (v1 := v1) (v2 := v2) (v3 := v3)
    rw [e, up_at, up_at, up_at, up_at]
    exact ⟨a.1.symm, a.2.1.symm, a.2.2.1.symm, a.2.2.2.symm⟩
  · have l : q < u 3 := by omega
    have o0 := s_pw_o (u := u) (kd := kd) (v1 := v1) (v2 := v2) (v3 := v3) l (j := 0) (by omega)
    rw [Nat.add_zero] at o0
    rw [up_ne e, up_ne e, up_ne e, up_ne e, o0, s_pw_o l (by omega), s_pw_o l (by omega), s_pw_o l (by omega)]
    exact hV.2 q l
theorem HC.pw {h : jH} {u : hw} {f k b p g z : Nat → Nat} {kd v1 v2 v3 : Nat} (d : h[6]? = some (jO 3 [.int (nI (u 4)), .int (nI (u 0)), .int (nI (u 1)), .int (nI (u 2)), .int (nI (u 3 + 1)), .ref 7, .ref 8, .ref 9, .ref 10, .ref 11, .ref 12])) (hF : h[7]? = some (jN 8 f)) (hK : h[8]? = some (jN 7 k)) (hR : h[9]? = some (jN 7 b)) (hP : h[10]? = some (jN 7 p)) (hG : h[11]? = some (jN 7 g)) (hZ : h[12]? = some (jN 8 z)) : HC h 6 (s_pw u kd v1 v2 v3) f k b p g z := by
  unfold HC
  rw [s_pw_3, s_pw_lo (by omega) (by omega), s_pw_lo (by omega) (by omega), s_pw_lo (by omega) (by omega), s_pw_lo (by omega) (by omega)]
  exact ⟨d, hF, hK, hR, hP, hG, hZ⟩
/-- bounds of a draft -/
def g_dr (u : hw) : Prop := g_ok u ∧ u 4 = 0
theorem s_hl_ok {n : Nat} {T : Nat → Nat} : ∀ (k : Nat) (x : sT) {u : hw}, g_dr u → u 3 = 0 → u 2 + k ≤ 8 → g_dr (s_hl n T k x u).2 ∧ (s_hl n T k x u).2 3 = 0 ∧ (s_hl n T k x u).2 1 = u 1
  | k, .inr q, u, h, h3, _ => by rw [s_hl_r]; exact ⟨h, h3, rfl⟩
  | 0, .inl a, u, h, h3, _ => by
    by_cases c : b_is n T 102 a
    · rw [s_hl_0 c]; exact ⟨h, h3, rfl⟩
    · rw [s_hl_f c]; exact ⟨h, h3, rfl⟩
  | k + 1, .inl a, u, h, h3, h2 => by
    by_cases c : b_is n T 102 a
    · cases e : (s_h1 n T a).2 with
      | inr q => rw [s_hl_x c e]; exact ⟨h, h3, rfl⟩
      | inl a' =>
        rw [s_hl_s c e]
        have v20 : (s_h1 n T a).1 ≤ 20 := s_N_le _
        obtain ⟨⟨g0, g1, g2, g3, g4, g5⟩, gd⟩ := h
        have z3 : va_up (va_up u (5 + u 2) (s_h1 n T a).1) 2 (u 2 + 1) 3 = u 3 := by rw [up_ne (by omega), up_ne (by omega)]
        have z1 : va_up (va_up u (5 + u 2) (s_h1 n T a).1) 2 (u 2 + 1) 1 = u 1 := by rw [up_ne (by omega), up_ne (by omega)]
        have z0 : va_up (va_up u (5 + u 2) (s_h1 n T a).1) 2 (u 2 + 1) 0 = u 0 := by rw [up_ne (by omega), up_ne (by omega)]
        have z4 : va_up (va_up u (5 + u 2) (s_h1 n T a).1) 2 (u 2 + 1) 4 = u 4 := by rw [up_ne (by omega), up_ne (by omega)]
        have z2 : va_up (va_up u (5 + u 2) (s_h1 n T a).1) 2 (u 2 + 1) 2 = u 2 + 1 := up_at
        have r := s_hl_ok (n := n) (T := T) k (.inl a') (u := va_up (va_up u (5 + u 2) (s_h1 n T a).1) 2 (u 2 + 1)) ⟨⟨by omega, by omega, by omega, by omega, fun i hi => by
          rw [up_ne (by omega)]
          by_cases e2 : i = u 2
          · rw [e2, up_at]; omega
          · rw [up_ne (by omega)]; exact g4 i (by omega), fun p hp => by omega⟩, by omega⟩ (by omega) (by omega)
        rw [z1] at r
        exact r
    · rw [s_hl_f c]; exact ⟨h, h3, rfl⟩
theorem s_pw_ok {u : hw} {kd v1 v2 v3 : Nat} (h : g_dr u) (h3 : u 3 < 7) (k1 : 1 ≤ kd) (k5 : kd ≤ 5) (b1 : v1 ≤ 40) (b2 : v2 < u 2) (b3 : v3 ≤ 1) : g_dr (s_pw u kd v1 v2 v3) := by
  obtain ⟨⟨g0, g1, g2, g3, g4, g5⟩, gd⟩ := h
  unfold g_dr g_ok
  rw [s_pw_3, s_pw_lo (by omega) (by omega), s_pw_lo (by omega) (by omega), s_pw_lo (by omega) (by omega), s_pw_lo (by omega) (by omega)]
  refine ⟨⟨g0, g1, g2, by omega, fun i hi => by rw [s_pw_lo (by omega) (by omega)]; exact g4 i hi, fun q hq => ?_⟩, gd⟩
  by_cases e : q = u 3
  · have a := s_pw_at (u := u) (kd := kd) (v1 := v1) (v2 := v2) (v3 := v3)
    rw [e, a.1, a.2.1, a.2.2.1, a.2.2.2]
    exact ⟨k1, k5, b1, b2, b3⟩
  · have l : q < u 3 := by omega
    have o0 := s_pw_o (u := u) (kd := kd) (v1 := v1) (v2 := v2) (v3 := v3) l (j := 0) (by omega)
    rw [Nat.add_zero] at o0
    rw [o0, s_pw_o l (by omega), s_pw_o l (by omega), s_pw_o l (by omega)]
    exact g5 q l
theorem s_pl_ok {n : Nat} {T : Nat → Nat} : ∀ (k : Nat) (x : sT) {u : hw}, g_dr u → 1 < u 2 → u 3 + k ≤ 7 → g_dr (s_pl n T k x u).2 ∧ (s_pl n T k x u).2 1 = u 1 ∧ (s_pl n T k x u).2 2 = u 2
  | k, .inr q, u, h, _, _ => by rw [s_pl_r]; exact ⟨h, rfl, rfl⟩
  | 0, .inl a, u, h, _, _ => by
    by_cases c : a < n ∧ 0 < s_kd (T a)
    · rw [s_pl_0 c]; exact ⟨h, rfl, rfl⟩
    · rw [s_pl_f c]; exact ⟨h, rfl, rfl⟩
  | k + 1, .inl a, u, h, h2, h3 => by
    by_cases c : a < n ∧ 0 < s_kd (T a)
    · cases e : s_p4 n T (u 2) a with
      | inr q => rw [s_pl_x c e]; exact ⟨h, rfl, rfl⟩
      | inl a' =>
        rw [s_pl_s c e]
        have v1 : (s_p1 n T (u 2) a).1 ≤ 40 := s_N_le _
        have v2 : (s_p2 n T (u 2) a).1 ≤ u 2 - 1 := s_N_le _
        have v3 : (s_p3 n T (u 2) a).1 ≤ 1 := s_N_le _
        have o := s_pw_ok (kd := s_kd (T a)) (v1 := (s_p1 n T (u 2) a).1) (v2 := (s_p2 n T (u 2) a).1) (v3 := (s_p3 n T (u 2) a).1) h (by omega) c.2 (s_kd_le _) v1 (by omega) v3
        have r := s_pl_ok (n := n) (T := T) k (.inl a') o (by rw [s_pw_lo (by omega) (by omega)]; exact h2) (by rw [s_pw_3]; omega)
        rw [s_pw_lo (by omega) (by omega), s_pw_lo (by omega) (by omega)] at r
        exact r
    · rw [s_pl_f c]; exact ⟨h, rfl, rfl⟩
theorem s_lu_ok {n : Nat} {T : Nat → Nat} : g_dr (s_lu n T) ∧ s_lu n T 3 = 0 ∧ s_lu n T 2 = 0 := by
  have a : (s_l1 n T).1 ≤ 15 := s_N_le _
  have b : (s_l2 n T).1 ≤ 9 := s_N_le _
  have e0 : s_lu n T 0 = (s_l1 n T).1 := rfl
  have e1 : s_lu n T 1 = (s_l2 n T).1 := rfl
  have e2 : s_lu n T 2 = 0 := rfl
  have e3 : s_lu n T 3 = 0 := rfl
  have e4 : s_lu n T 4 = 0 := rfl
  exact ⟨⟨⟨by omega, by omega, by omega, by omega, fun i hi => by omega, fun p hp => by omega⟩, e4⟩, e3, e2⟩
theorem s_hs_ok {n : Nat} {T : Nat → Nat} : g_dr (s_hs n T).2 ∧ (s_hs n T).2 3 = 0 ∧ (s_hs n T).2 1 = (s_l2 n T).1 := by
  obtain ⟨a, b, c⟩ := s_lu_ok (n := n) (T := T)
  exact s_hl_ok 8 _ a b (by omega)
theorem s_ps_ok {n : Nat} {T : Nat → Nat} {a : Nat} (h : s_hx n T = .inl a) : g_ok (s_ps n T).2 ∧ (s_ps n T).2 4 = 0 ∧ 1 < (s_ps n T).2 2 ∧ 0 < (s_ps n T).2 1 := by
  obtain ⟨g, g3, g1⟩ := s_hs_ok (n := n) (T := T)
  cases e : s_hm n T with
  | inr q =>
    unfold s_hx s_ps at h
    rw [e, s_pl_r] at h
    cases h
  | inl b =>
    unfold s_hm at e
    cases e2 : (s_hs n T).1 with
    | inr q => rw [e2] at e; cases e
    | inl b2 =>
      rw [e2] at e
      have c : 1 < (s_hs n T).2 2 := by
        by_cases c : 1 < (s_hs n T).2 2
        · exact c
        · have : s_M (1 < (s_hs n T).2 2) (.inl b2) = .inr (1, b2) := if_neg c
          rw [this] at e
          cases e
      have r := s_pl_ok (n := n) (T := T) 7 (s_hm n T) g c (by omega)
      refine ⟨r.1.1, r.1.2, by rw [show (s_ps n T).2 2 = _ from r.2.2]; exact c, ?_⟩
      rw [show (s_ps n T).2 1 = _ from r.2.1, g1]
      have l3 : (s_l3 n T).isLeft = true := by
        cases e3 : s_l3 n T with
        | inl _ => rfl
        | inr q =>
          unfold s_hs at e2
          rw [e3, s_hl_r] at e2
          cases e2
      have l2 : (s_l2 n T).2.isLeft = true := s_B_l l3
      exact s_N_ge l2
