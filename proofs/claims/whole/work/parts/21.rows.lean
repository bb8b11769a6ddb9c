set_option maxRecDepth 100000 in
set_option maxHeartbeats 4000000 in
theorem oo_0 {h : jH} {k a t : Nat} (ha : a ≤ 5) {Pr : Prop} [Decidable Pr] {X : jX} (hX : jRet X (some .boolean) none (jRt (.int (jb Pr)) h)) (ht : t ≤ 2) (hP : Pr ↔ a = 0) : jV cX6_isOneOf RX6 1 X none 4 [some (.int (nI k)), some (.int (nI a)), some (.int (nI 0)), some (.int (nI t))] [] h := by
  refine e_il3 dX6_isOneOf_4 ?_
  refine e_iconst (nI 5) dX6_isOneOf_5 (by decide) ?_
  refine e_ic_gtN 37 dX6_isOneOf_6 (by decide) (by omega) (by omega) (fun c_6 => ?_) (fun c_6 => ?_)
  · omega
  · refine e_il2 dX6_isOneOf_9 ?_
    refine e_iconst (nI 0) dX6_isOneOf_10 (by decide) ?_
    refine e_iconst (nI 5) dX6_isOneOf_11 (by decide) ?_
    refine e_cs dX6_isOneOf_12 sX6_63 (m_X6_isWithinR (by decide) (by decide)) (by decide) rfl rfl (Nat.le_of_ble_eq_true rfl) jBud0 ?_
    rintro _ _ ⟨rfl, rfl⟩
    refine e_if_eqB 37 dX6_isOneOf_15 (by decide) (fun c_15 => ?_) (fun c_15 => ?_)
    · exact absurd (by decide) c_15
    · refine e_il2 dX6_isOneOf_18 ?_
      refine e_il1 dX6_isOneOf_19 ?_
      refine e_ic_neN 25 dX6_isOneOf_20 (by decide) (by omega) (by omega) (fun c_20 => ?_) (fun c_20 => ?_)
      · refine e_gets 2 dX6_isOneOf_25 rfl gX6_283 ?_
        refine e_il2 dX6_isOneOf_28 ?_
        refine e_saldN 2 dX6_isOneOf_29 rfl (by decide) (by decide) ?_
        refine e_is2 dX6_isOneOf_30 rfl ?_
        refine e_inc3N dX6_isOneOf_31 rfl ?_
        refine e_goto 4 dX6_isOneOf_34 (by decide) ?_
        refine e_il3 dX6_isOneOf_4 ?_
        refine e_iconst (nI 5) dX6_isOneOf_5 (by decide) ?_
        refine e_ic_gtN 37 dX6_isOneOf_6 (by decide) (by omega) (by omega) (fun c_6 => ?_) (fun c_6 => ?_)
        · omega
        · refine e_il2 dX6_isOneOf_9 ?_
          refine e_iconst (nI 0) dX6_isOneOf_10 (by decide) ?_
          refine e_iconst (nI 5) dX6_isOneOf_11 (by decide) ?_
          refine e_cs dX6_isOneOf_12 sX6_63 (m_X6_isWithinR (by decide) (by decide)) (by decide) rfl rfl (Nat.le_of_ble_eq_true rfl) jBud0 ?_
          rintro _ _ ⟨rfl, rfl⟩
          refine e_if_eqB 37 dX6_isOneOf_15 (by decide) (fun c_15 => ?_) (fun c_15 => ?_)
          · refine e_iconst (nI 0) dX6_isOneOf_37 (by decide) ?_
            exact e_zret hX dX6_isOneOf_38 rfl (jRt_f (fun q => by have := hP.mp q; omega)) (fun z => z)
          · exact absurd c_15 (by decide)
      · refine e_iconst (nI 1) dX6_isOneOf_23 (by decide) ?_
        exact e_zret hX dX6_isOneOf_24 rfl (jRt_t (hP.mpr (by omega))) (fun z => z)
set_option maxRecDepth 100000 in
set_option maxHeartbeats 4000000 in
theorem oo_1 {h : jH} {k a t : Nat} (ha : a ≤ 5) {Pr : Prop} [Decidable Pr] {X : jX} (hX : jRet X (some .boolean) none (jRt (.int (jb Pr)) h)) (ht : t ≤ 1) (hP : Pr ↔ (a = 1 ∨ a = 0)) : jV cX6_isOneOf RX6 1 X none 4 [some (.int (nI k)), some (.int (nI a)), some (.int (nI 1)), some (.int (nI t))] [] h := by
  refine e_il3 dX6_isOneOf_4 ?_
  refine e_iconst (nI 5) dX6_isOneOf_5 (by decide) ?_
  refine e_ic_gtN 37 dX6_isOneOf_6 (by decide) (by omega) (by omega) (fun c_6 => ?_) (fun c_6 => ?_)
  · omega
  · refine e_il2 dX6_isOneOf_9 ?_
    refine e_iconst (nI 0) dX6_isOneOf_10 (by decide) ?_
    refine e_iconst (nI 5) dX6_isOneOf_11 (by decide) ?_
    refine e_cs dX6_isOneOf_12 sX6_63 (m_X6_isWithinR (by decide) (by decide)) (by decide) rfl rfl (Nat.le_of_ble_eq_true rfl) jBud0 ?_
    rintro _ _ ⟨rfl, rfl⟩
    refine e_if_eqB 37 dX6_isOneOf_15 (by decide) (fun c_15 => ?_) (fun c_15 => ?_)
    · exact absurd (by decide) c_15
    · refine e_il2 dX6_isOneOf_18 ?_
      refine e_il1 dX6_isOneOf_19 ?_
      refine e_ic_neN 25 dX6_isOneOf_20 (by decide) (by omega) (by omega) (fun c_20 => ?_) (fun c_20 => ?_)
      · refine e_gets 2 dX6_isOneOf_25 rfl gX6_283 ?_
        refine e_il2 dX6_isOneOf_28 ?_
        refine e_saldN 2 dX6_isOneOf_29 rfl (by decide) (by decide) ?_
        refine e_is2 dX6_isOneOf_30 rfl ?_
        refine e_inc3N dX6_isOneOf_31 rfl ?_
        refine e_goto 4 dX6_isOneOf_34 (by decide) ?_
        refine oo_0 ha hX (by omega) ?_
        constructor
        · intro q; have := hP.mp q; omega
        · intro q; exact hP.mpr (by omega)
      · refine e_iconst (nI 1) dX6_isOneOf_23 (by decide) ?_
        exact e_zret hX dX6_isOneOf_24 rfl (jRt_t (hP.mpr (by omega))) (fun z => z)
set_option maxRecDepth 100000 in
set_option maxHeartbeats 4000000 in
theorem oo_4 {h : jH} {k a t : Nat} (ha : a ≤ 5) {Pr : Prop} [Decidable Pr] {X : jX} (hX : jRet X (some .boolean) none (jRt (.int (jb Pr)) h)) (ht : t ≤ 1) (hP : Pr ↔ (a = 4 ∨ a = 0)) : jV cX6_isOneOf RX6 1 X none 4 [some (.int (nI k)), some (.int (nI a)), some (.int (nI 4)), some (.int (nI t))] [] h := by
  refine e_il3 dX6_isOneOf_4 ?_
  refine e_iconst (nI 5) dX6_isOneOf_5 (by decide) ?_
  refine e_ic_gtN 37 dX6_isOneOf_6 (by decide) (by omega) (by omega) (fun c_6 => ?_) (fun c_6 => ?_)
  · omega
  · refine e_il2 dX6_isOneOf_9 ?_
    refine e_iconst (nI 0) dX6_isOneOf_10 (by decide) ?_
    refine e_iconst (nI 5) dX6_isOneOf_11 (by decide) ?_
    refine e_cs dX6_isOneOf_12 sX6_63 (m_X6_isWithinR (by decide) (by decide)) (by decide) rfl rfl (Nat.le_of_ble_eq_true rfl) jBud0 ?_
    rintro _ _ ⟨rfl, rfl⟩
    refine e_if_eqB 37 dX6_isOneOf_15 (by decide) (fun c_15 => ?_) (fun c_15 => ?_)
    · exact absurd (by decide) c_15
    · refine e_il2 dX6_isOneOf_18 ?_
      refine e_il1 dX6_isOneOf_19 ?_
      refine e_ic_neN 25 dX6_isOneOf_20 (by decide) (by omega) (by omega) (fun c_20 => ?_) (fun c_20 => ?_)
      · refine e_gets 2 dX6_isOneOf_25 rfl gX6_283 ?_
        refine e_il2 dX6_isOneOf_28 ?_
        refine e_saldN 2 dX6_isOneOf_29 rfl (by decide) (by decide) ?_
        refine e_is2 dX6_isOneOf_30 rfl ?_
        refine e_inc3N dX6_isOneOf_31 rfl ?_
        refine e_goto 4 dX6_isOneOf_34 (by decide) ?_
        refine oo_0 ha hX (by omega) ?_
        constructor
        · intro q; have := hP.mp q; omega
        · intro q; exact hP.mpr (by omega)
      · refine e_iconst (nI 1) dX6_isOneOf_23 (by decide) ?_
        exact e_zret hX dX6_isOneOf_24 rfl (jRt_t (hP.mpr (by omega))) (fun z => z)
set_option maxRecDepth 100000 in
set_option maxHeartbeats 4000000 in
theorem oo_2 {h : jH} {k a t : Nat} (ha : a ≤ 5) {Pr : Prop} [Decidable Pr] {X : jX} (hX : jRet X (some .boolean) none (jRt (.int (jb Pr)) h)) (ht : t ≤ 0) (hP : Pr ↔ (a = 2 ∨ a = 1 ∨ a = 0)) : jV cX6_isOneOf RX6 1 X none 4 [some (.int (nI k)), some (.int (nI a)), some (.int (nI 2)), some (.int (nI t))] [] h := by
  refine e_il3 dX6_isOneOf_4 ?_
  refine e_iconst (nI 5) dX6_isOneOf_5 (by decide) ?_
  refine e_ic_gtN 37 dX6_isOneOf_6 (by decide) (by omega) (by omega) (fun c_6 => ?_) (fun c_6 => ?_)
  · omega
  · refine e_il2 dX6_isOneOf_9 ?_
    refine e_iconst (nI 0) dX6_isOneOf_10 (by decide) ?_
    refine e_iconst (nI 5) dX6_isOneOf_11 (by decide) ?_
    refine e_cs dX6_isOneOf_12 sX6_63 (m_X6_isWithinR (by decide) (by decide)) (by decide) rfl rfl (Nat.le_of_ble_eq_true rfl) jBud0 ?_
    rintro _ _ ⟨rfl, rfl⟩
    refine e_if_eqB 37 dX6_isOneOf_15 (by decide) (fun c_15 => ?_) (fun c_15 => ?_)
    · exact absurd (by decide) c_15
    · refine e_il2 dX6_isOneOf_18 ?_
      refine e_il1 dX6_isOneOf_19 ?_
      refine e_ic_neN 25 dX6_isOneOf_20 (by decide) (by omega) (by omega) (fun c_20 => ?_) (fun c_20 => ?_)
      · refine e_gets 2 dX6_isOneOf_25 rfl gX6_283 ?_
        refine e_il2 dX6_isOneOf_28 ?_
        refine e_saldN 2 dX6_isOneOf_29 rfl (by decide) (by decide) ?_
        refine e_is2 dX6_isOneOf_30 rfl ?_
        refine e_inc3N dX6_isOneOf_31 rfl ?_
        refine e_goto 4 dX6_isOneOf_34 (by decide) ?_
        refine oo_1 ha hX (by omega) ?_
        constructor
        · intro q; have := hP.mp q; omega
        · intro q; exact hP.mpr (by omega)
      · refine e_iconst (nI 1) dX6_isOneOf_23 (by decide) ?_
        exact e_zret hX dX6_isOneOf_24 rfl (jRt_t (hP.mpr (by omega))) (fun z => z)
set_option maxRecDepth 100000 in
set_option maxHeartbeats 4000000 in
theorem oo_3 {h : jH} {k a t : Nat} (ha : a ≤ 5) {Pr : Prop} [Decidable Pr] {X : jX} (hX : jRet X (some .boolean) none (jRt (.int (jb Pr)) h)) (ht : t ≤ 0) (hP : Pr ↔ (a = 3 ∨ a = 1 ∨ a = 0)) : jV cX6_isOneOf RX6 1 X none 4 [some (.int (nI k)), some (.int (nI a)), some (.int (nI 3)), some (.int (nI t))] [] h := by
  refine e_il3 dX6_isOneOf_4 ?_
  refine e_iconst (nI 5) dX6_isOneOf_5 (by decide) ?_
  refine e_ic_gtN 37 dX6_isOneOf_6 (by decide) (by omega) (by omega) (fun c_6 => ?_) (fun c_6 => ?_)
  · omega
  · refine e_il2 dX6_isOneOf_9 ?_
    refine e_iconst (nI 0) dX6_isOneOf_10 (by decide) ?_
    refine e_iconst (nI 5) dX6_isOneOf_11 (by decide) ?_
    refine e_cs dX6_isOneOf_12 sX6_63 (m_X6_isWithinR (by decide) (by decide)) (by decide) rfl rfl (Nat.le_of_ble_eq_true rfl) jBud0 ?_
    rintro _ _ ⟨rfl, rfl⟩
    refine e_if_eqB 37 dX6_isOneOf_15 (by decide) (fun c_15 => ?_) (fun c_15 => ?_)
    · exact absurd (by decide) c_15
    · refine e_il2 dX6_isOneOf_18 ?_
      refine e_il1 dX6_isOneOf_19 ?_
      refine e_ic_neN 25 dX6_isOneOf_20 (by decide) (by omega) (by omega) (fun c_20 => ?_) (fun c_20 => ?_)
      · refine e_gets 2 dX6_isOneOf_25 rfl gX6_283 ?_
        refine e_il2 dX6_isOneOf_28 ?_
        refine e_saldN 2 dX6_isOneOf_29 rfl (by decide) (by decide) ?_
        refine e_is2 dX6_isOneOf_30 rfl ?_
        refine e_inc3N dX6_isOneOf_31 rfl ?_
        refine e_goto 4 dX6_isOneOf_34 (by decide) ?_
        refine oo_1 ha hX (by omega) ?_
        constructor
        · intro q; have := hP.mp q; omega
        · intro q; exact hP.mpr (by omega)
      · refine e_iconst (nI 1) dX6_isOneOf_23 (by decide) ?_
        exact e_zret hX dX6_isOneOf_24 rfl (jRt_t (hP.mpr (by omega))) (fun z => z)
set_option maxRecDepth 100000 in
set_option maxHeartbeats 4000000 in
theorem oo_5 {h : jH} {k a t : Nat} (ha : a ≤ 5) {Pr : Prop} [Decidable Pr] {X : jX} (hX : jRet X (some .boolean) none (jRt (.int (jb Pr)) h)) (ht : t ≤ 0) (hP : Pr ↔ (a = 5 ∨ a = 4 ∨ a = 0)) : jV cX6_isOneOf RX6 1 X none 4 [some (.int (nI k)), some (.int (nI a)), some (.int (nI 5)), some (.int (nI t))] [] h := by
  refine e_il3 dX6_isOneOf_4 ?_
  refine e_iconst (nI 5) dX6_isOneOf_5 (by decide) ?_
  refine e_ic_gtN 37 dX6_isOneOf_6 (by decide) (by omega) (by omega) (fun c_6 => ?_) (fun c_6 => ?_)
  · omega
  · refine e_il2 dX6_isOneOf_9 ?_
    refine e_iconst (nI 0) dX6_isOneOf_10 (by decide) ?_
    refine e_iconst (nI 5) dX6_isOneOf_11 (by decide) ?_
    refine e_cs dX6_isOneOf_12 sX6_63 (m_X6_isWithinR (by decide) (by decide)) (by decide) rfl rfl (Nat.le_of_ble_eq_true rfl) jBud0 ?_
    rintro _ _ ⟨rfl, rfl⟩
    refine e_if_eqB 37 dX6_isOneOf_15 (by decide) (fun c_15 => ?_) (fun c_15 => ?_)
    · exact absurd (by decide) c_15
    · refine e_il2 dX6_isOneOf_18 ?_
      refine e_il1 dX6_isOneOf_19 ?_
      refine e_ic_neN 25 dX6_isOneOf_20 (by decide) (by omega) (by omega) (fun c_20 => ?_) (fun c_20 => ?_)
      · refine e_gets 2 dX6_isOneOf_25 rfl gX6_283 ?_
        refine e_il2 dX6_isOneOf_28 ?_
        refine e_saldN 2 dX6_isOneOf_29 rfl (by decide) (by decide) ?_
        refine e_is2 dX6_isOneOf_30 rfl ?_
        refine e_inc3N dX6_isOneOf_31 rfl ?_
        refine e_goto 4 dX6_isOneOf_34 (by decide) ?_
        refine oo_4 ha hX (by omega) ?_
        constructor
        · intro q; have := hP.mp q; omega
        · intro q; exact hP.mpr (by omega)
      · refine e_iconst (nI 1) dX6_isOneOf_23 (by decide) ?_
        exact e_zret hX dX6_isOneOf_24 rfl (jRt_t (hP.mpr (by omega))) (fun z => z)
abbrev s_isa (k a : Nat) : Prop := a = k ∨ a = 0 ∨ (a = 1 ∧ (k = 2 ∨ k = 3)) ∨ (a = 4 ∧ k = 5)
set_option maxRecDepth 100000 in
set_option maxHeartbeats 4000000 in
theorem m_X6_isOneOf {h : jH} {k a : Nat} (hk1 : 1 ≤ k) (hk5 : k ≤ 5) (ha : a ≤ 5) : jM yX6_isOneOf cX6_isOneOf 4 (some .boolean) 1 none [.int (nI k), .int (nI a)] h (jRt (.int (jb (s_isa k a))) h) := by
  refine jM.ofF (by decide +kernel) rfl (Nat.le_of_ble_eq_true rfl) (fun X hX hI => ?_)
  show jV cX6_isOneOf RX6 1 X none 0 [some (.int (nI k)), some (.int (nI a)), none, none] [] h
  refine e_il0 dX6_isOneOf_0 ?_
  refine e_is2 dX6_isOneOf_1 rfl ?_
  refine e_iconst (nI 0) dX6_isOneOf_2 (by decide) ?_
  refine e_is3 dX6_isOneOf_3 rfl ?_
  rcases (show k = 1 ∨ k = 2 ∨ k = 3 ∨ k = 4 ∨ k = 5 by omega) with rfl | rfl | rfl | rfl | rfl
  · exact oo_1 ha hX (by omega) (by unfold s_isa; omega)
  · exact oo_2 ha hX (by omega) (by unfold s_isa; omega)
  · exact oo_3 ha hX (by omega) (by unfold s_isa; omega)
  · exact oo_4 ha hX (by omega) (by unfold s_isa; omega)
  · exact oo_5 ha hX (by omega) (by unfold s_isa; omega)
theorem cLane_3 {x : Nat} (h : x ≤ 3) : cLane x = -1 ↔ x = 3 := by
  have : ∀ y, y ≤ 3 → (cLane y = -1 ↔ y = 3) := by decide +kernel
  exact this x h
theorem rLane_3 {x : Nat} (h : x ≤ 3) : rLane x = -1000000 ↔ x = 3 := by
  have : ∀ y, y ≤ 3 → (rLane y = -1000000 ↔ y = 3) := by decide +kernel
  exact this x h
theorem cLane_n {x : Nat} (h : x ≠ 3) : cLane x = nI x := if_neg h
theorem rLane_n {x : Nat} (h : x ≠ 3) : rLane x = nI x := if_neg h
set_option maxRecDepth 100000 in
set_option maxHeartbeats 4000000 in
theorem m_X4_start {h : jH} {r : Nat} : jM yX4_start cX4_start 1 (some .int) 0 none [.int (nI r)] h (jRt (.int (nI (40 * r))) h) := by
  refine jM.ofF (by decide +kernel) rfl (Nat.le_of_ble_eq_true rfl) (fun X hX hI => ?_)
  show jV cX4_start RX4 0 X none 0 [some (.int (nI r))] [] h
  refine e_il0 dX4_start_0 ?_
  refine e_bipush (nI 40) dX4_start_1 (by decide) ?_
  refine e_imulN dX4_start_3 ?_
  exact e_iret hX dX4_start_4 (jRt_e (congrArg nI (by omega))) (fun z => z)
set_option maxRecDepth 100000 in
set_option maxHeartbeats 4000000 in
theorem m_X4_isMissing {h : jH} (h1 : h[1]? = some (jO 4 [.ref 2, .ref 3, .ref 4])) {L I : Nat → Int32} {N : Nat → Nat} (h2 : h[2]? = some (jI 8 L)) (h3 : h[3]? = some (jN 8 N)) (h4 : h[4]? = some (jI 320 I)) {r : Nat} (hr : r < 8) : jM yX4_isMissing cX4_isMissing 2 (some .boolean) 0 none [.ref 1, .int (nI r)] h (jRt (.int (jb (L r = -1))) h) := by
  refine jM.ofF (by decide +kernel) rfl (Nat.le_of_ble_eq_true rfl) (fun X hX hI => ?_)
  show jV cX4_isMissing RX4 0 X none 0 [some (.ref 1), some (.int (nI r))] [] h
  refine e_al0 dX4_isMissing_0 ?_
  refine e_get dX4_isMissing_1 fX4_9 h1 rfl ?_
  refine e_il1 dX4_isMissing_4 ?_
  refine e_ialdI dX4_isMissing_5 h2 (by omega) (by decide) ?_
  refine e_iconst (-1) dX4_isMissing_6 (by decide) ?_
  refine e_ic_ne 14 dX4_isMissing_7 (by decide) (fun c_7 => ?_) (fun c_7 => ?_)
  · refine e_iconst (nI 0) dX4_isMissing_14 (by decide) ?_
    exact e_zret hX dX4_isMissing_15 rfl (by first | exact jRt_t c_7 | exact jRt_f c_7) (fun z => z)
  · refine e_iconst (nI 1) dX4_isMissing_10 (by decide) ?_
    refine e_goto 15 dX4_isMissing_11 (by decide) ?_
    exact e_zret hX dX4_isMissing_15 rfl (by first | exact jRt_t c_7 | exact jRt_f c_7) (fun z => z)
theorem iP_c {x n : Int32} {N : Nat} (hN : N ≤ 40) (h1 : ¬ x < 0) (h2 : ¬ n < 0) : x ≤ nI N - n ↔ iP x n N := by
  rw [fa_lt] at h1 h2
  have e0 : (0 : Int32).toInt = 0 := by decide
  rw [e0] at h1 h2
  have hn := n.toInt_lt
  have eN := nI_toInt (n := N) (by omega)
  have es : (nI N - n).toInt = (N : Int) - n.toInt := by
    rw [Int32.toInt_sub, eN]
    apply Int.bmod_eq_of_le <;> omega
  rw [fa_le, es]
  unfold iP
  omega
theorem iP_n {x n : Int32} {N : Nat} (h : x < 0 ∨ n < 0) : ¬ iP x n N := by
  have e0 : (0 : Int32).toInt = 0 := by decide
  rw [fa_lt, fa_lt, e0] at h
  unfold iP
  omega
theorem iP_r {x n : Int32} {N : Nat} (hN : N ≤ 40) (h1 : ¬ x < 0) (h2 : ¬ n < 0) (h3 : ¬ nI N < x) : n ≤ nI N - x ↔ iP x n N := by
  rw [iP_c hN h2 h1]
  unfold iP
  omega
theorem iP_r2 {x n : Int32} {N : Nat} (hN : N ≤ 40) (h2 : ¬ n < 0) (h3 : nI N < x) : ¬ iP x n N := by
  have e0 : (0 : Int32).toInt = 0 := by decide
  rw [fa_lt, e0] at h2
  rw [fa_lt, nI_toInt (by omega)] at h3
  unfold iP
  omega
set_option maxRecDepth 100000 in
set_option maxHeartbeats 4000000 in
theorem m_X4_hasPlaces {h : jH} (h1 : h[1]? = some (jO 4 [.ref 2, .ref 3, .ref 4])) {L I : Nat → Int32} {N : Nat → Nat} (h2 : h[2]? = some (jI 8 L)) (h3 : h[3]? = some (jN 8 N)) (h4 : h[4]? = some (jI 320 I)) {r : Nat} (hr : r < 8) (hN : N r ≤ 40) {x n : Int32} : jM yX4_hasPlaces cX4_hasPlaces 4 (some .boolean) 0 none [.ref 1, .int (nI r), .int x, .int n] h (jRt (.int (jb (iP x n (N r)))) h) := by
  refine jM.ofF (by decide +kernel) rfl (Nat.le_of_ble_eq_true rfl) (fun X hX hI => ?_)
  show jV cX4_hasPlaces RX4 0 X none 0 [some (.ref 1), some (.int (nI r)), some (.int x), some (.int n)] [] h
  refine e_il2 dX4_hasPlaces_0 ?_
  refine e_if_lt 24 dX4_hasPlaces_1 (by decide) (fun c_1 => ?_) (fun c_1 => ?_)
  · refine e_iconst (nI 0) dX4_hasPlaces_24 (by decide) ?_
    exact e_zret hX dX4_hasPlaces_25 rfl (jRt_f (iP_n (Or.inl c_1))) (fun z => z)
  · refine e_il3 dX4_hasPlaces_4 ?_
    refine e_if_lt 24 dX4_hasPlaces_5 (by decide) (fun c_5 => ?_) (fun c_5 => ?_)
    · refine e_iconst (nI 0) dX4_hasPlaces_24 (by decide) ?_
      exact e_zret hX dX4_hasPlaces_25 rfl (jRt_f (iP_n (Or.inr c_5))) (fun z => z)
    · refine e_il2 dX4_hasPlaces_8 ?_
      refine e_al0 dX4_hasPlaces_9 ?_
      refine e_get dX4_hasPlaces_10 fX4_13 h1 rfl ?_
      refine e_il1 dX4_hasPlaces_13 ?_
      refine e_ialdN dX4_hasPlaces_14 h3 (by omega) (by decide) ?_
      refine e_il3 dX4_hasPlaces_15 ?_
      refine e_isub dX4_hasPlaces_16 ?_
      refine e_ic_gt 24 dX4_hasPlaces_17 (by decide) (fun c_17 => ?_) (fun c_17 => ?_)
      · refine e_iconst (nI 0) dX4_hasPlaces_24 (by decide) ?_
        exact e_zret hX dX4_hasPlaces_25 rfl (jRt_f (fun q => absurd c_17 (by have := (iP_c hN c_1 c_5).mpr q; rw [fa_le] at this; rw [fa_lt]; omega))) (fun z => z)
      · refine e_iconst (nI 1) dX4_hasPlaces_20 (by decide) ?_
        refine e_goto 25 dX4_hasPlaces_21 (by decide) ?_
        exact e_zret hX dX4_hasPlaces_25 rfl (jRt_t ((iP_c hN c_1 c_5).mp (fa_of_nlt c_17))) (fun z => z)
def s_cut (l : Nat) (v : Int32) : Int32 := if l = 0 then v.toInt8.toInt32 else if l = 1 then v.toInt16.toInt32 else v
set_option maxRecDepth 100000 in
set_option maxHeartbeats 4000000 in
theorem m_X4_cutToLane {h : jH} {l : Nat} (hl : l ≤ 2) {x : Int32} : jM yX4_cutToLane cX4_cutToLane 2 (some .int) 0 none [.int (nI l), .int x] h (jRt (.int (s_cut l x)) h) := by
  refine jM.ofF (by decide +kernel) rfl (Nat.le_of_ble_eq_true rfl) (fun X hX hI => ?_)
  show jV cX4_cutToLane RX4 0 X none 0 [some (.int (nI l)), some (.int x)] [] h
  refine e_il0 dX4_cutToLane_0 ?_
  rcases (show l = 0 ∨ l = 1 ∨ l = 2 by omega) with rfl | rfl | rfl
  · refine e_look 28 dX4_cutToLane_1 (by decide) (by rfl) (by decide) ?_
    refine e_il1 dX4_cutToLane_28 ?_
    refine e_i2b dX4_cutToLane_29 ?_
    exact e_iret hX dX4_cutToLane_30 (⟨rfl, rfl⟩) (fun z => z)
  · refine e_look 31 dX4_cutToLane_1 (by decide) (by rfl) (by decide) ?_
    refine e_il1 dX4_cutToLane_31 ?_
    refine e_i2s dX4_cutToLane_32 ?_
    exact e_iret hX dX4_cutToLane_33 (⟨rfl, rfl⟩) (fun z => z)
  · refine e_look 34 dX4_cutToLane_1 (by decide) (by rfl) (by decide) ?_
    refine e_il1 dX4_cutToLane_34 ?_
    exact e_iret hX dX4_cutToLane_35 (⟨rfl, rfl⟩) (fun z => z)
  
theorem s_shl24 (v : Int32) : (v <<< (nI 24 &&& 31)) >>> (nI 24 &&& 31) = v.toInt8.toInt32 := by
  rw [nsh (by decide)]
  apply Int32.toBitVec_inj.1
  show (v.toBitVec <<< ((nI 24).toBitVec.smod 32)).sshiftRight' ((nI 24).toBitVec.smod 32) = (v.toBitVec.signExtend 8).signExtend 32
  rw [show (nI 24).toBitVec.smod 32 = 24#32 by decide]
  generalize v.toBitVec = x
  show (x <<< (24 : Nat)).sshiftRight 24 = _
  apply BitVec.eq_of_getLsbD_eq
  intro i hi
  simp only [BitVec.getLsbD_sshiftRight, BitVec.getLsbD_shiftLeft, BitVec.getLsbD_signExtend, BitVec.msb_eq_getLsbD_last]
  by_cases c : i < 8
  · simp [c, hi, show 24 + i < 32 by omega, show ¬ 32 ≤ i by omega, show ¬ 24 + i < 24 by omega]
  · simp [c, hi, show ¬ 24 + i < 32 by omega, show ¬ i < 8 by omega]
theorem s_shl16 (v : Int32) : (v <<< (nI 16 &&& 31)) >>> (nI 16 &&& 31) = v.toInt16.toInt32 := by
  rw [nsh (by decide)]
  apply Int32.toBitVec_inj.1
  show (v.toBitVec <<< ((nI 16).toBitVec.smod 32)).sshiftRight' ((nI 16).toBitVec.smod 32) = (v.toBitVec.signExtend 16).signExtend 32
  rw [show (nI 16).toBitVec.smod 32 = 16#32 by decide]
  generalize v.toBitVec = x
  show (x <<< (16 : Nat)).sshiftRight 16 = _
  apply BitVec.eq_of_getLsbD_eq
  intro i hi
  simp only [BitVec.getLsbD_sshiftRight, BitVec.getLsbD_shiftLeft, BitVec.getLsbD_signExtend, BitVec.msb_eq_getLsbD_last]
  by_cases c : i < 16
  · simp [c, hi, show 16 + i < 32 by omega, show ¬ 32 ≤ i by omega, show ¬ 16 + i < 16 by omega]
  · simp [c, hi, show ¬ 16 + i < 32 by omega, show ¬ i < 16 by omega]
set_option maxRecDepth 100000 in
set_option maxHeartbeats 4000000 in
theorem lp_X4_make {h0 : jH} {L I : Nat → Int32} {N : Nat → Nat} {r l m : Nat} (hr : r < 8) (hm40 : m ≤ 40) {X : jX} (hX : jRet X (none) none (fun v h' => v = none ∧ ∃ I' : Nat → Int32, h'[1]? = some (jO 4 [.ref 2, .ref 3, .ref 4]) ∧ h'[2]? = some (jI 8 (upd L r (nI l))) ∧ h'[3]? = some (jN 8 (va_up N r m)) ∧ h'[4]? = some (jI 320 I') ∧ (∀ k, I' k = if 40 * r ≤ k ∧ k < 40 * r + m then 0 else I k) ∧ jEq h0 h' (fun j => 2 ≤ j ∧ j < 5))) : ∀ (n i : Nat) (h : jH) (I' : Nat → Int32), m - i < n → i ≤ m → h[1]? = some (jO 4 [.ref 2, .ref 3, .ref 4]) → h[2]? = some (jI 8 (upd L r (nI l))) → h[3]? = some (jN 8 (va_up N r m)) → h[4]? = some (jI 320 I') → (∀ k, I' k = if 40 * r ≤ k ∧ k < 40 * r + i then 0 else I k) → jEq h0 h (fun j => 2 ≤ j ∧ j < 5) → jV cX4_make RX4 1 X none 17 [some (.ref 1), some (.int (nI r)), some (.int (nI l)), some (.int (nI m)), some (.int (nI i))] [] h := by
  intro n
  induction n with
  | zero => intros; omega
  | succ n ih =>
    intro i h I' hm hi h1 h2 h3 h4 hI E
    refine e_il4 dX4_make_17 ?_
    refine e_il3 dX4_make_19 ?_
    refine e_ic_geN 42 dX4_make_20 (by decide) (by omega) (by omega) (fun c_20 => ?_) (fun c_20 => ?_)
    · exact e_ret hX dX4_make_42 (⟨rfl, I', h1, h2, h3, h4, fun k => by rw [hI k, show i = m by omega], E⟩) (fun z => z)
    · refine e_al0 dX4_make_23 ?_
      refine e_get dX4_make_24 fX4_16 h1 rfl ?_
      refine e_il1 dX4_make_27 ?_
      refine e_cs dX4_make_28 sX4_19 (m_X4_start) (by decide) rfl rfl (Nat.le_of_ble_eq_true rfl) jBud0 ?_
      rintro _ _ ⟨rfl, rfl⟩
      refine e_il4 dX4_make_31 ?_
      refine e_iaddN dX4_make_33 ?_
      refine e_iconst (nI 0) dX4_make_34 (by decide) ?_
      refine e_iastI dX4_make_35 h4 (by omega) (by decide) ?_
      refine e_abs (fun h5 hh => ?_)
      replace h1 := jhs hh h1 (by omega)
      replace h2 := jhs hh h2 (by omega)
      replace h3 := jhs hh h3 (by omega)
      replace h4 := jhs_at hh h4
      replace E := jEq.hs hh E ⟨by omega, by omega⟩
      clear hh
      refine e_inc4N dX4_make_36 rfl ?_
      refine e_goto 17 dX4_make_39 (by decide) ?_
      refine ih (i + 1) _ _ (by omega) (by omega) h1 h2 h3 h4 (fun k => ?_) E
      unfold upd
      by_cases q : k = 40 * r + i
      · rw [if_pos q, if_pos (by omega)]; rfl
      · rw [if_neg q, hI k]
        by_cases q2 : 40 * r ≤ k ∧ k < 40 * r + i
        · rw [if_pos q2, if_pos (by omega)]
        · rw [if_neg q2, if_neg (by omega)]
set_option maxRecDepth 100000 in
set_option maxHeartbeats 4000000 in
theorem m_X4_make {h : jH} (h1 : h[1]? = some (jO 4 [.ref 2, .ref 3, .ref 4])) {L I : Nat → Int32} {N : Nat → Nat} (h2 : h[2]? = some (jI 8 L)) (h3 : h[3]? = some (jN 8 N)) (h4 : h[4]? = some (jI 320 I)) {r l m : Nat} (hr : r < 8) (hm40 : m ≤ 40) : jM yX4_make cX4_make 5 (none : Option Jvm.ClassFile.FieldType) 1 none [.ref 1, .int (nI r), .int (nI l), .int (nI m)] h (fun v h' => v = none ∧ ∃ I' : Nat → Int32, h'[1]? = some (jO 4 [.ref 2, .ref 3, .ref 4]) ∧ h'[2]? = some (jI 8 (upd L r (nI l))) ∧ h'[3]? = some (jN 8 (va_up N r m)) ∧ h'[4]? = some (jI 320 I') ∧ (∀ k, I' k = if 40 * r ≤ k ∧ k < 40 * r + m then 0 else I k) ∧ jEq h h' (fun j => 2 ≤ j ∧ j < 5)) := by
  refine jM.ofF (by decide +kernel) rfl (Nat.le_of_ble_eq_true rfl) (fun X hX hI => ?_)
  show jV cX4_make RX4 1 X none 0 [some (.ref 1), some (.int (nI r)), some (.int (nI l)), some (.int (nI m)), none] [] h
  refine e_al0 dX4_make_0 ?_
  refine e_get dX4_make_1 fX4_9 h1 rfl ?_
  refine e_il1 dX4_make_4 ?_
  refine e_il2 dX4_make_5 ?_
  refine e_iastI dX4_make_6 h2 (by omega) (by decide) ?_
  refine e_abs (fun h5 hh => ?_)
  replace h1 := jhs hh h1 (by omega)
  replace h2 := jhs_at hh h2
  replace h3 := jhs hh h3 (by omega)
  replace h4 := jhs hh h4 (by omega)
  have E := jEq.hs hh (jEq.rf (h := h) (P := fun j => 2 ≤ j ∧ j < 5)) ⟨by omega, by omega⟩
  clear hh
  refine e_al0 dX4_make_7 ?_
  refine e_get dX4_make_8 fX4_13 h1 rfl ?_
  refine e_il1 dX4_make_11 ?_
  refine e_il3 dX4_make_12 ?_
  refine e_iastN dX4_make_13 h3 (by omega) (by decide) ?_
  refine e_abs (fun h6 hh => ?_)
  replace h1 := jhs hh h1 (by omega)
  replace h2 := jhs hh h2 (by omega)
  replace h3 := jhs_at hh h3
  replace h4 := jhs hh h4 (by omega)
  replace E := jEq.hs hh E ⟨by omega, by omega⟩
  clear hh
  refine e_iconst (nI 0) dX4_make_14 (by decide) ?_
  refine e_is4 dX4_make_15 rfl ?_
  exact lp_X4_make hr hm40 hX (m + 1) 0 _ I (by omega) (by omega) h1 h2 h3 h4 (fun k => by rw [if_neg (by omega)]) E
set_option maxRecDepth 100000 in
set_option maxHeartbeats 4000000 in
theorem m_X4_put {h : jH} (h1 : h[1]? = some (jO 4 [.ref 2, .ref 3, .ref 4])) {L I : Nat → Int32} {N : Nat → Nat} (h2 : h[2]? = some (jI 8 L)) (h3 : h[3]? = some (jN 8 N)) (h4 : h[4]? = some (jI 320 I)) {r l i : Nat} (hr : r < 8) (hl : l ≤ 2) (hLr : L r = nI l) (hi : i < 40) {x : Int32} : jM yX4_put cX4_put 5 (some .int) 1 none [.ref 1, .int (nI r), .int (nI i), .int x] h (fun v h' => v = some (.int (s_cut l x)) ∧ h' = h.set 4 (jI 320 (upd I (40 * r + i) (s_cut l x)))) := by
  refine jM.ofF (by decide +kernel) rfl (Nat.le_of_ble_eq_true rfl) (fun X hX hI => ?_)
  show jV cX4_put RX4 1 X none 0 [some (.ref 1), some (.int (nI r)), some (.int (nI i)), some (.int x), none] [] h
  refine e_al0 dX4_put_0 ?_
  refine e_get dX4_put_1 fX4_9 h1 rfl ?_
  refine e_il1 dX4_put_4 ?_
  refine e_ialdI dX4_put_5 h2 (by omega) (by decide) ?_
  rw [hLr]
  refine e_il3 dX4_put_6 ?_
  refine e_cs dX4_put_7 sX4_23 (m_X4_cutToLane hl) (by decide) rfl rfl (Nat.le_of_ble_eq_true rfl) jBud0 ?_
  rintro _ _ ⟨rfl, rfl⟩
  refine e_is4 dX4_put_10 rfl ?_
  refine e_al0 dX4_put_12 ?_
  refine e_get dX4_put_13 fX4_16 h1 rfl ?_
  refine e_il1 dX4_put_16 ?_
  refine e_cs dX4_put_17 sX4_19 (m_X4_start) (by decide) rfl rfl (Nat.le_of_ble_eq_true rfl) jBud0 ?_
  rintro _ _ ⟨rfl, rfl⟩
  refine e_il2 dX4_put_20 ?_
  refine e_iaddN dX4_put_21 ?_
  refine e_il4 dX4_put_22 ?_
  refine e_iastI dX4_put_24 h4 (by omega) (by decide) ?_
  refine e_il4 dX4_put_25 ?_
  exact e_iret hX dX4_put_27 (⟨rfl, rfl⟩) (fun z => z)
set_option maxRecDepth 100000 in
set_option maxHeartbeats 4000000 in
theorem m_X4_forget {h : jH} (h1 : h[1]? = some (jO 4 [.ref 2, .ref 3, .ref 4])) {L I : Nat → Int32} {N : Nat → Nat} (h2 : h[2]? = some (jI 8 L)) (h3 : h[3]? = some (jN 8 N)) (h4 : h[4]? = some (jI 320 I)) {r : Nat} (hr : r < 8) : jM yX4_forget cX4_forget 2 (some .int) 0 none [.ref 1, .int (nI r)] h (fun v h' => v = some (.int (nI (N r))) ∧ h' = h.set 2 (jI 8 (upd L r (-1)))) := by
  refine jM.ofF (by decide +kernel) rfl (Nat.le_of_ble_eq_true rfl) (fun X hX hI => ?_)
  show jV cX4_forget RX4 0 X none 0 [some (.ref 1), some (.int (nI r))] [] h
  refine e_al0 dX4_forget_0 ?_
  refine e_get dX4_forget_1 fX4_9 h1 rfl ?_
  refine e_il1 dX4_forget_4 ?_
  refine e_iconst (-1) dX4_forget_5 (by decide) ?_
  refine e_iastI dX4_forget_6 h2 (by omega) (by decide) ?_
  refine e_abs (fun h5 hh => ?_)
  replace h1 := jhs hh h1 (by omega)
  replace h3 := jhs hh h3 (by omega)
  refine e_al0 dX4_forget_7 ?_
  refine e_get dX4_forget_8 fX4_13 h1 rfl ?_
  refine e_il1 dX4_forget_11 ?_
  refine e_ialdN dX4_forget_12 h3 (by omega) (by decide) ?_
  exact e_iret hX dX4_forget_13 (⟨rfl, hh⟩) (fun z => z)
def s_pres (la : Nat → Nat) : Nat → Nat
  | 0 => 0
  | n + 1 => s_pres la n + (if la n = 3 then 0 else 1)
set_option maxRecDepth 100000 in
set_option maxHeartbeats 4000000 in
theorem lp_X4_present {h : jH} (h1 : h[1]? = some (jO 4 [.ref 2, .ref 3, .ref 4])) {L I : Nat → Int32} {N : Nat → Nat} (h2 : h[2]? = some (jI 8 L)) (h3 : h[3]? = some (jN 8 N)) (h4 : h[4]? = some (jI 320 I)) {la : Nat → Nat} (hla : ∀ r, r < 8 → la r ≤ 3) (hL : ∀ r, r < 8 → L r = cLane (la r)) {X : jX} (hX : jRet X (some .int) none (jRt (.int (nI (s_pres la 8))) h)) : ∀ (n i acc : Nat), 8 - i < n → i ≤ 8 → acc = s_pres la i → jV cX4_present RX4 1 X none 4 [some (.ref 1), some (.int (nI acc)), some (.int (nI i))] [] h := by
  intro n
  induction n with
  | zero => intros; omega
  | succ n ih =>
    intro i acc hm hi hacc
    refine e_il2 dX4_present_4 ?_
    refine e_bipush (nI 8) dX4_present_5 (by decide) ?_
    refine e_ic_geN 32 dX4_present_7 (by decide) (by omega) (by omega) (fun c_7 => ?_) (fun c_7 => ?_)
    · refine e_il1 dX4_present_32 ?_
      exact e_iret hX dX4_present_33 (by rw [hacc, show i = 8 by omega]; exact ⟨rfl, rfl⟩) (fun z => z)
    · refine e_il1 dX4_present_10 ?_
      refine e_al0 dX4_present_11 ?_
      refine e_il2 dX4_present_12 ?_
      refine e_cv dX4_present_13 vX4_27 (m_X4_isMissing h1 h2 h3 h4 (by omega)) (by decide) rfl rfl (Nat.le_of_ble_eq_true rfl) jBud0 rfl h1 ?_
      rintro _ _ ⟨rfl, rfl⟩
      refine e_if_eqB 23 dX4_present_16 (by decide) (fun c_16 => ?_) (fun c_16 => ?_)
      · rw [hL i (by omega), cLane_3 (hla i (by omega))] at c_16
        refine e_iconst (nI 1) dX4_present_23 (by decide) ?_
        refine e_iaddN dX4_present_24 ?_
        refine e_is1 dX4_present_25 rfl ?_
        refine e_inc2N dX4_present_26 rfl ?_
        refine e_goto 4 dX4_present_29 (by decide) ?_
        exact ih (i + 1) _ (by omega) (by omega) (by first | (rw [s_pres, if_neg c_16, hacc]) | (rw [s_pres, if_pos c_16, hacc]))
      · rw [hL i (by omega), cLane_3 (hla i (by omega))] at c_16
        refine e_iconst (nI 0) dX4_present_19 (by decide) ?_
        refine e_goto 24 dX4_present_20 (by decide) ?_
        refine e_iaddN dX4_present_24 ?_
        refine e_is1 dX4_present_25 rfl ?_
        refine e_inc2N dX4_present_26 rfl ?_
        refine e_goto 4 dX4_present_29 (by decide) ?_
        exact ih (i + 1) _ (by omega) (by omega) (by first | (rw [s_pres, if_neg c_16, hacc]) | (rw [s_pres, if_pos c_16, hacc]))
set_option maxRecDepth 100000 in
set_option maxHeartbeats 4000000 in
theorem m_X4_present {h : jH} (h1 : h[1]? = some (jO 4 [.ref 2, .ref 3, .ref 4])) {L I : Nat → Int32} {N : Nat → Nat} (h2 : h[2]? = some (jI 8 L)) (h3 : h[3]? = some (jN 8 N)) (h4 : h[4]? = some (jI 320 I)) {la : Nat → Nat} (hla : ∀ r, r < 8 → la r ≤ 3) (hL : ∀ r, r < 8 → L r = cLane (la r)) : jM yX4_present cX4_present 3 (some .int) 1 none [.ref 1] h (jRt (.int (nI (s_pres la 8))) h) := by
  refine jM.ofF (by decide +kernel) rfl (Nat.le_of_ble_eq_true rfl) (fun X hX hI => ?_)
  show jV cX4_present RX4 1 X none 0 [some (.ref 1), none, none] [] h
  refine e_iconst (nI 0) dX4_present_0 (by decide) ?_
  refine e_is1 dX4_present_1 rfl ?_
  refine e_iconst (nI 0) dX4_present_2 (by decide) ?_
  refine e_is2 dX4_present_3 rfl ?_
  exact lp_X4_present h1 h2 h3 h4 hla hL hX 9 0 0 (by omega) (by omega) rfl
set_option maxRecDepth 100000 in
set_option maxHeartbeats 4000000 in
theorem m_X7_isMissing {h : jH} {s : Nat → Int32} (hO : RO h s) {L : Nat → Int32} (h1 : h[219]? = some (jI 8 L)) {r : Nat} (hr : r < 8) : jM yX7_isMissing cX7_isMissing 2 (some .boolean) 0 none [.ref 218, .int (nI r)] h (jRt (.int (jb (L r = -1000000))) h) := by
  refine jM.ofF (by decide +kernel) rfl (Nat.le_of_ble_eq_true rfl) (fun X hX hI => ?_)
  show jV cX7_isMissing RX7 0 X none 0 [some (.ref 218), some (.int (nI r))] [] h
  refine e_al0 dX7_isMissing_0 ?_
  refine e_get dX7_isMissing_1 fX7_7 hO rfl ?_
  refine e_il1 dX7_isMissing_4 ?_
  refine e_ialdI dX7_isMissing_5 h1 (by omega) (by decide) ?_
  refine e_ldc dX7_isMissing_6 kX7_59 ?_
  refine e_ic_ne 15 dX7_isMissing_8 (by decide) (fun c_8 => ?_) (fun c_8 => ?_)
  · refine e_iconst (nI 0) dX7_isMissing_15 (by decide) ?_
    exact e_zret hX dX7_isMissing_16 rfl (by first | exact jRt_t c_8 | exact jRt_f c_8) (fun z => z)
  · refine e_iconst (nI 1) dX7_isMissing_11 (by decide) ?_
    refine e_goto 16 dX7_isMissing_12 (by decide) ?_
    exact e_zret hX dX7_isMissing_16 rfl (by first | exact jRt_t c_8 | exact jRt_f c_8) (fun z => z)
set_option maxRecDepth 100000 in
set_option maxHeartbeats 4000000 in
theorem m_X7_cut {h : jH} {l : Nat} (hl : l ≤ 2) {x : Int32} : jM yX7_cut cX7_cut 2 (some .int) 0 none [.int (nI l), .int x] h (jRt (.int (s_cut l x)) h) := by
  refine jM.ofF (by decide +kernel) rfl (Nat.le_of_ble_eq_true rfl) (fun X hX hI => ?_)
  show jV cX7_cut RX7 0 X none 0 [some (.int (nI l)), some (.int x)] [] h
  refine e_il0 dX7_cut_0 ?_
  refine e_if_neN 14 dX7_cut_1 (by decide) (by omega) (fun c_1 => ?_) (fun c_1 => ?_)
  · refine e_il0 dX7_cut_14 ?_
    refine e_iconst (nI 1) dX7_cut_15 (by decide) ?_
    refine e_ic_neN 29 dX7_cut_16 (by decide) (by omega) (by omega) (fun c_16 => ?_) (fun c_16 => ?_)
    · refine e_il1 dX7_cut_29 ?_
      exact e_iret hX dX7_cut_30 (jRt_e (by rw [s_cut, if_neg (by omega), if_neg (by omega)])) (fun z => z)
    · refine e_il1 dX7_cut_19 ?_
      refine e_bipush (nI 16) dX7_cut_20 (by decide) ?_
      refine e_ishl dX7_cut_22 ?_
      refine e_bipush (nI 16) dX7_cut_23 (by decide) ?_
      refine e_ishr dX7_cut_25 ?_
      refine e_goto 30 dX7_cut_26 (by decide) ?_
      exact e_iret hX dX7_cut_30 (jRt_e (by rw [s_shl16, s_cut, if_neg (by omega), if_pos (by omega)])) (fun z => z)
  · refine e_il1 dX7_cut_4 ?_
    refine e_bipush (nI 24) dX7_cut_5 (by decide) ?_
    refine e_ishl dX7_cut_7 ?_
    refine e_bipush (nI 24) dX7_cut_8 (by decide) ?_
    refine e_ishr dX7_cut_10 ?_
    refine e_goto 30 dX7_cut_11 (by decide) ?_
    exact e_iret hX dX7_cut_30 (jRt_e (by rw [s_shl24, s_cut, if_pos (by omega)])) (fun z => z)
set_option maxRecDepth 100000 in
set_option maxHeartbeats 4000000 in
theorem m_X7_isPart {h : jH} {s : Nat → Int32} (hO : RO h s) {N : Nat → Nat} (h2 : h[220]? = some (jN 8 N)) {r : Nat} (hr : r < 8) (hN : N r ≤ 40) {x n : Int32} : jM yX7_isPart cX7_isPart 4 (some .boolean) 0 none [.ref 218, .int (nI r), .int x, .int n] h (jRt (.int (jb (iP x n (N r)))) h) := by
  refine jM.ofF (by decide +kernel) rfl (Nat.le_of_ble_eq_true rfl) (fun X hX hI => ?_)
  show jV cX7_isPart RX7 0 X none 0 [some (.ref 218), some (.int (nI r)), some (.int x), some (.int n)] [] h
  refine e_il2 dX7_isPart_0 ?_
  refine e_if_lt 34 dX7_isPart_1 (by decide) (fun c_1 => ?_) (fun c_1 => ?_)
  · refine e_iconst (nI 0) dX7_isPart_34 (by decide) ?_
    exact e_zret hX dX7_isPart_35 rfl (jRt_f (iP_n (Or.inl c_1))) (fun z => z)
  · refine e_il3 dX7_isPart_4 ?_
    refine e_if_lt 34 dX7_isPart_5 (by decide) (fun c_5 => ?_) (fun c_5 => ?_)
    · refine e_iconst (nI 0) dX7_isPart_34 (by decide) ?_
      exact e_zret hX dX7_isPart_35 rfl (jRt_f (iP_n (Or.inr c_5))) (fun z => z)
    · refine e_il2 dX7_isPart_8 ?_
      refine e_al0 dX7_isPart_9 ?_
      refine e_get dX7_isPart_10 fX7_13 hO rfl ?_
      refine e_il1 dX7_isPart_13 ?_
      refine e_ialdN dX7_isPart_14 h2 (by omega) (by decide) ?_
      refine e_ic_gt 34 dX7_isPart_15 (by decide) (fun c_15 => ?_) (fun c_15 => ?_)
      · refine e_iconst (nI 0) dX7_isPart_34 (by decide) ?_
        exact e_zret hX dX7_isPart_35 rfl (jRt_f (iP_r2 hN c_5 c_15)) (fun z => z)
      · refine e_il3 dX7_isPart_18 ?_
        refine e_al0 dX7_isPart_19 ?_
        refine e_get dX7_isPart_20 fX7_13 hO rfl ?_
        refine e_il1 dX7_isPart_23 ?_
        refine e_ialdN dX7_isPart_24 h2 (by omega) (by decide) ?_
        refine e_il2 dX7_isPart_25 ?_
        refine e_isub dX7_isPart_26 ?_
        refine e_ic_gt 34 dX7_isPart_27 (by decide) (fun c_27 => ?_) (fun c_27 => ?_)
        · refine e_iconst (nI 0) dX7_isPart_34 (by decide) ?_
          exact e_zret hX dX7_isPart_35 rfl (jRt_f (fun q => absurd c_27 (by have := (iP_r hN c_1 c_5 c_15).mpr q; rw [fa_le] at this; rw [fa_lt]; omega))) (fun z => z)
        · refine e_iconst (nI 1) dX7_isPart_30 (by decide) ?_
          refine e_goto 35 dX7_isPart_31 (by decide) ?_
          exact e_zret hX dX7_isPart_35 rfl (jRt_t ((iP_r hN c_1 c_5 c_15).mp (fa_of_nlt c_27))) (fun z => z)
