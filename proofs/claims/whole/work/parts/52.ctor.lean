theorem dfX0 : ∀ j, j < 3 → defaultValue (tyX0 j) = vp_V [.null, .int 0, .int 0] j := by
  intro j hj
  rcases (show j = 0 ∨ j = 1 ∨ j = 2 by omega) with rfl | rfl | rfl <;> rfl
theorem dfX1 : ∀ j, j < 2 → defaultValue (tyX1 j) = vp_V [.null, .int 0] j := by
  intro j hj
  rcases (show j = 0 ∨ j = 1 by omega) with rfl | rfl <;> rfl
theorem dfX2 : ∀ j, j < 3 → defaultValue (tyX2 j) = vp_V [.null, .null, .null] j := by
  intro j hj
  rcases (show j = 0 ∨ j = 1 ∨ j = 2 by omega) with rfl | rfl | rfl <;> rfl
theorem dfX3 : ∀ j, j < 11 → defaultValue (tyX3 j) = vp_V [.int 0, .int 0, .int 0, .int 0, .int 0, .null, .null, .null, .null, .null, .null] j := by
  intro j hj
  rcases (show j = 0 ∨ j = 1 ∨ j = 2 ∨ j = 3 ∨ j = 4 ∨ j = 5 ∨ j = 6 ∨ j = 7 ∨ j = 8 ∨ j = 9 ∨ j = 10 by omega) with rfl | rfl | rfl | rfl | rfl | rfl | rfl | rfl | rfl | rfl | rfl <;> rfl
theorem dfX4 : ∀ j, j < 3 → defaultValue (tyX4 j) = vp_V [.null, .null, .null] j := by
  intro j hj
  rcases (show j = 0 ∨ j = 1 ∨ j = 2 by omega) with rfl | rfl | rfl <;> rfl
theorem dfX5 : ∀ j, j < 5 → defaultValue (tyX5 j) = vp_V [.null, .null, .int 0, .int 0, .int 0] j := by
  intro j hj
  rcases (show j = 0 ∨ j = 1 ∨ j = 2 ∨ j = 3 ∨ j = 4 by omega) with rfl | rfl | rfl | rfl | rfl <;> rfl
theorem dfX6 : ∀ j, j < 8 → defaultValue (tyX6 j) = vp_V [.null, .null, .null, .null, .null, .null, .null, .int 0] j := by
  intro j hj
  rcases (show j = 0 ∨ j = 1 ∨ j = 2 ∨ j = 3 ∨ j = 4 ∨ j = 5 ∨ j = 6 ∨ j = 7 by omega) with rfl | rfl | rfl | rfl | rfl | rfl | rfl | rfl <;> rfl
theorem dfX7 : ∀ j, j < 26 → defaultValue (tyX7 j) = vp_V [.null, .null, .null, .null, .int 0, .null, .int 0, .int 0, .int 0, .int 0, .int 0, .int 0, .int 0, .null, .null, .null, .null, .int 0, .null, .null, .null, .null, .null, .null, .null, .int 0] j := by
  intro j hj
  rcases (show j = 0 ∨ j = 1 ∨ j = 2 ∨ j = 3 ∨ j = 4 ∨ j = 5 ∨ j = 6 ∨ j = 7 ∨ j = 8 ∨ j = 9 ∨ j = 10 ∨ j = 11 ∨ j = 12 ∨ j = 13 ∨ j = 14 ∨ j = 15 ∨ j = 16 ∨ j = 17 ∨ j = 18 ∨ j = 19 ∨ j = 20 ∨ j = 21 ∨ j = 22 ∨ j = 23 ∨ j = 24 ∨ j = 25 by omega) with rfl | rfl | rfl | rfl | rfl | rfl | rfl | rfl | rfl | rfl | rfl | rfl | rfl | rfl | rfl | rfl | rfl | rfl | rfl | rfl | rfl | rfl | rfl | rfl | rfl | rfl <;> rfl
set_option maxRecDepth 100000 in
set_option maxHeartbeats 4000000 in
theorem m_X3_init {h : jH} {o : Nat} (hl : h.length = o + 1) (hO : h[o]? = some (jO 3 [.int 0, .int 0, .int 0, .int 0, .int 0, .null, .null, .null, .null, .null, .null])) (ho : o < 980) : jM yX3_init cX3_init 1 (none : Option Jvm.ClassFile.FieldType) 1 (some (6, 44)) [.ref o] h (fun v h' => v = none ∧ h'.length = o + 7 ∧ HC0 h' o ∧ jP h h' o) := by
  refine jM.ofF (by decide +kernel) rfl (Nat.le_of_ble_eq_true rfl) (fun X hX hI0 => ?_)
  have hI := hI0 rfl
  have EP : jP h h o := jP.rf
  show jV cX3_init RX3 1 X (some (6, 44)) 0 [some (.ref o)] [] h
  refine e_al0 dX3_init_0 ?_
  refine e_obj dX3_init_1 oX3_3 w_obj (by decide) (Nat.le_of_ble_eq_true rfl) ?_
  refine e_al0 dX3_init_4 ?_
  refine e_bipush (nI 8) dX3_init_5 (by decide) ?_
  refine e_newa (N := 8) (K := 5) (M := 36) dX3_init_7 arr_int (nI_pos (by omega)) (nI_clamp (by omega)) (by omega) (by omega) ?_
  rw [hl]
  refine e_abs (fun h1 hh => ?_)
  replace hO := jap hh hO
  have A1 := jap_new hh hl
  replace EP := EP.ap hh hl (by omega)
  replace hl : h1.length = o + 2 := by have := jap_len hh hl; omega
  clear hh
  refine e_putF dX3_init_9 fX3_11 hI (by intro C T N hC; cases hC; rfl) hO (Nat.le_of_ble_eq_true rfl) (fun g => ⟨rfl, rfl⟩) ?_
  refine e_abs (fun h1 hh => ?_)
  replace hO := jhs_at hh hO
  replace A1 := jhs hh A1 (by omega)
  replace EP := EP.st hh (by omega)
  replace hl := jset_len hh hl
  clear hh
  refine e_al0 dX3_init_12 ?_
  refine e_bipush (nI 7) dX3_init_13 (by decide) ?_
  refine e_newa (N := 7) (K := 4) (M := 29) dX3_init_15 arr_int (nI_pos (by omega)) (nI_clamp (by omega)) (by omega) (by omega) ?_
  rw [hl]
  refine e_abs (fun h1 hh => ?_)
  replace hO := jap hh hO
  replace A1 := jap hh A1
  have A2 := jap_new hh hl
  replace EP := EP.ap hh hl (by omega)
  replace hl : h1.length = o + 3 := by have := jap_len hh hl; omega
  clear hh
  refine e_putF dX3_init_17 fX3_15 hI (by intro C T N hC; cases hC; rfl) hO (Nat.le_of_ble_eq_true rfl) (fun g => ⟨rfl, rfl⟩) ?_
  refine e_abs (fun h1 hh => ?_)
  replace hO := jhs_at hh hO
  replace A1 := jhs hh A1 (by omega)
  replace A2 := jhs hh A2 (by omega)
  replace EP := EP.st hh (by omega)
  replace hl := jset_len hh hl
  clear hh
  refine e_al0 dX3_init_20 ?_
  refine e_bipush (nI 7) dX3_init_21 (by decide) ?_
  refine e_newa (N := 7) (K := 3) (M := 22) dX3_init_23 arr_int (nI_pos (by omega)) (nI_clamp (by omega)) (by omega) (by omega) ?_
  rw [hl]
  refine e_abs (fun h1 hh => ?_)
  replace hO := jap hh hO
  replace A1 := jap hh A1
  replace A2 := jap hh A2
  have A3 := jap_new hh hl
  replace EP := EP.ap hh hl (by omega)
  replace hl : h1.length = o + 4 := by have := jap_len hh hl; omega
  clear hh
  refine e_putF dX3_init_25 fX3_18 hI (by intro C T N hC; cases hC; rfl) hO (Nat.le_of_ble_eq_true rfl) (fun g => ⟨rfl, rfl⟩) ?_
  refine e_abs (fun h1 hh => ?_)
  replace hO := jhs_at hh hO
  replace A1 := jhs hh A1 (by omega)
  replace A2 := jhs hh A2 (by omega)
  replace A3 := jhs hh A3 (by omega)
  replace EP := EP.st hh (by omega)
  replace hl := jset_len hh hl
  clear hh
  refine e_al0 dX3_init_28 ?_
  refine e_bipush (nI 7) dX3_init_29 (by decide) ?_
  refine e_newa (N := 7) (K := 2) (M := 15) dX3_init_31 arr_int (nI_pos (by omega)) (nI_clamp (by omega)) (by omega) (by omega) ?_
  rw [hl]
  refine e_abs (fun h1 hh => ?_)
  replace hO := jap hh hO
  replace A1 := jap hh A1
  replace A2 := jap hh A2
  replace A3 := jap hh A3
  have A4 := jap_new hh hl
  replace EP := EP.ap hh hl (by omega)
  replace hl : h1.length = o + 5 := by have := jap_len hh hl; omega
  clear hh
  refine e_putF dX3_init_33 fX3_21 hI (by intro C T N hC; cases hC; rfl) hO (Nat.le_of_ble_eq_true rfl) (fun g => ⟨rfl, rfl⟩) ?_
  refine e_abs (fun h1 hh => ?_)
  replace hO := jhs_at hh hO
  replace A1 := jhs hh A1 (by omega)
  replace A2 := jhs hh A2 (by omega)
  replace A3 := jhs hh A3 (by omega)
  replace A4 := jhs hh A4 (by omega)
  replace EP := EP.st hh (by omega)
  replace hl := jset_len hh hl
  clear hh
  refine e_al0 dX3_init_36 ?_
  refine e_bipush (nI 7) dX3_init_37 (by decide) ?_
  refine e_newa (N := 7) (K := 1) (M := 8) dX3_init_39 arr_int (nI_pos (by omega)) (nI_clamp (by omega)) (by omega) (by omega) ?_
  rw [hl]
  refine e_abs (fun h1 hh => ?_)
  replace hO := jap hh hO
  replace A1 := jap hh A1
  replace A2 := jap hh A2
  replace A3 := jap hh A3
  replace A4 := jap hh A4
  have A5 := jap_new hh hl
  replace EP := EP.ap hh hl (by omega)
  replace hl : h1.length = o + 6 := by have := jap_len hh hl; omega
  clear hh
  refine e_putF dX3_init_41 fX3_24 hI (by intro C T N hC; cases hC; rfl) hO (Nat.le_of_ble_eq_true rfl) (fun g => ⟨rfl, rfl⟩) ?_
  refine e_abs (fun h1 hh => ?_)
  replace hO := jhs_at hh hO
  replace A1 := jhs hh A1 (by omega)
  replace A2 := jhs hh A2 (by omega)
  replace A3 := jhs hh A3 (by omega)
  replace A4 := jhs hh A4 (by omega)
  replace A5 := jhs hh A5 (by omega)
  replace EP := EP.st hh (by omega)
  replace hl := jset_len hh hl
  clear hh
  refine e_al0 dX3_init_44 ?_
  refine e_bipush (nI 8) dX3_init_45 (by decide) ?_
  refine e_newa (N := 8) (K := 0) (M := 0) dX3_init_47 arr_int (nI_pos (by omega)) (nI_clamp (by omega)) (by omega) (by omega) ?_
  rw [hl]
  refine e_abs (fun h1 hh => ?_)
  replace hO := jap hh hO
  replace A1 := jap hh A1
  replace A2 := jap hh A2
  replace A3 := jap hh A3
  replace A4 := jap hh A4
  replace A5 := jap hh A5
  have A6 := jap_new hh hl
  replace EP := EP.ap hh hl (by omega)
  replace hl : h1.length = o + 7 := by have := jap_len hh hl; omega
  clear hh
  refine e_putF dX3_init_49 fX3_27 hI (by intro C T N hC; cases hC; rfl) hO (Nat.le_of_ble_eq_true rfl) (fun g => ⟨rfl, rfl⟩) ?_
  refine e_abs (fun h1 hh => ?_)
  replace hO := jhs_at hh hO
  replace A1 := jhs hh A1 (by omega)
  replace A2 := jhs hh A2 (by omega)
  replace A3 := jhs hh A3 (by omega)
  replace A4 := jhs hh A4 (by omega)
  replace A5 := jhs hh A5 (by omega)
  replace A6 := jhs hh A6 (by omega)
  replace EP := EP.st hh (by omega)
  replace hl := jset_len hh hl
  clear hh
  exact e_ret hX dX3_init_52 (⟨rfl, hl, ⟨hO, A1, A2, A3, A4, A5, A6⟩, EP⟩) (fun _ => rfl)
def pX1 (h : jH) (o : Nat) : Prop := h[o]? = some (jO 1 [.ref (o + 1), .int (nI 0)]) ∧ h[o + 1]? = some (jN 16 z0)
theorem pX1.p {h h1 : jH} {o o2 : Nat} (t : pX1 h o) (p : jP h h1 o2) (ho : o + 2 ≤ o2) : pX1 h1 o := ⟨p.at t.1 (by omega), p.at t.2 (by omega)⟩
theorem pX1.hs {h h1 : jH} {o i : Nat} {c : jC} (t : pX1 h o) (hh : h1 = h.set i c) (hi : i < o ∨ o + 2 ≤ i) : pX1 h1 o := ⟨jhs hh t.1 (by omega), jhs hh t.2 (by omega)⟩
def pX4 (h : jH) (o : Nat) : Prop := h[o]? = some (jO 4 [.ref (o + 1), .ref (o + 2), .ref (o + 3)]) ∧ (∃ L : Nat → Int32, h[o + 1]? = some (jI 8 L) ∧ ∀ r, r < 8 → L r = -1) ∧ h[o + 2]? = some (jN 8 z0) ∧ h[o + 3]? = some (jN 320 z0)
theorem pX4.p {h h1 : jH} {o o2 : Nat} (t : pX4 h o) (p : jP h h1 o2) (ho : o + 4 ≤ o2) : pX4 h1 o := by
  obtain ⟨a, ⟨L, b, b2⟩, c, d⟩ := t
  exact ⟨p.at a (by omega), ⟨L, p.at b (by omega), b2⟩, p.at c (by omega), p.at d (by omega)⟩
theorem pX4.hs {h h1 : jH} {o i : Nat} {c : jC} (t : pX4 h o) (hh : h1 = h.set i c) (hi : i < o ∨ o + 4 ≤ i) : pX4 h1 o := by
  obtain ⟨a, ⟨L, b, b2⟩, c, d⟩ := t
  exact ⟨jhs hh a (by omega), ⟨L, jhs hh b (by omega), b2⟩, jhs hh c (by omega), jhs hh d (by omega)⟩
def pX5 (h : jH) (o : Nat) : Prop := h[o]? = some (jO 5 [.ref (o + 1), .ref (o + 8), .int (nI 0), .int (nI 0), .int (nI 0)]) ∧ HC0 h (o + 1) ∧ h[o + 8]? = some (jN 100 z0)
theorem pX5.p {h h1 : jH} {o o2 : Nat} (t : pX5 h o) (p : jP h h1 o2) (ho : o + 9 ≤ o2) : pX5 h1 o := ⟨p.at t.1 (by omega), HC0.p p t.2.1 (by omega), p.at t.2.2 (by omega)⟩
theorem pX5.hs {h h1 : jH} {o i : Nat} {c : jC} (t : pX5 h o) (hh : h1 = h.set i c) (hi : i < o ∨ o + 9 ≤ i) : pX5 h1 o := ⟨jhs hh t.1 (by omega), HC.hs hh t.2.1 (by omega), jhs hh t.2.2 (by omega)⟩
def pX2 (h : jH) (o : Nat) : Prop := h[o]? = some (jO 2 [.ref (o + 1), .ref (o + 8), .ref (o + 9)]) ∧ HC0 h (o + 1) ∧ h[o + 8]? = some (jN 25 z0) ∧ h[o + 9]? = some (jN 25 z0)
theorem pX2.p {h h1 : jH} {o o2 : Nat} (t : pX2 h o) (p : jP h h1 o2) (ho : o + 10 ≤ o2) : pX2 h1 o := ⟨p.at t.1 (by omega), HC0.p p t.2.1 (by omega), p.at t.2.2.1 (by omega), p.at t.2.2.2 (by omega)⟩
theorem pX2.hs {h h1 : jH} {o i : Nat} {c : jC} (t : pX2 h o) (hh : h1 = h.set i c) (hi : i < o ∨ o + 10 ≤ i) : pX2 h1 o := ⟨jhs hh t.1 (by omega), HC.hs hh t.2.1 (by omega), jhs hh t.2.2.1 (by omega), jhs hh t.2.2.2 (by omega)⟩
def pX0 (h : jH) (o : Nat) : Prop := h[o]? = some (jO 0 [.ref (o + 1), .int (nI 0), .int (nI 0)]) ∧ (∃ rf : Nat → Option Nat, h[o + 1]? = some (jR 24 rf) ∧ ∀ i, i < 24 → rf i = some (o + 2 + 7 * i)) ∧ ∀ i, i < 24 → HC0 h (o + 2 + 7 * i)
theorem pX0.p {h h1 : jH} {o o2 : Nat} (t : pX0 h o) (p : jP h h1 o2) (ho : o + 170 ≤ o2) : pX0 h1 o := by
  obtain ⟨a, ⟨L, b, b2⟩, c⟩ := t
  exact ⟨p.at a (by omega), ⟨L, p.at b (by omega), b2⟩, fun i hi => HC0.p p (c i hi) (by omega)⟩
theorem pX0.hs {h h1 : jH} {o i : Nat} {c : jC} (t : pX0 h o) (hh : h1 = h.set i c) (hi : i < o ∨ o + 170 ≤ i) : pX0 h1 o := by
  obtain ⟨a, ⟨L, b, b2⟩, c⟩ := t
  exact ⟨jhs hh a (by omega), ⟨L, jhs hh b (by omega), b2⟩, fun i hi => HC.hs hh (c i hi) (by omega)⟩
set_option maxRecDepth 100000 in
set_option maxHeartbeats 4000000 in
theorem m_X1_init {h : jH} {o : Nat} (hl : h.length = o + 1) (hO : h[o]? = some (jO 1 [.null, .int 0])) (ho : o < 700) : jM yX1_init cX1_init 1 (none : Option Jvm.ClassFile.FieldType) 1 (some (1, 16)) [.ref o] h (fun v h' => v = none ∧ h'.length = o + 2 ∧ pX1 h' o ∧ jP h h' o) := by
  refine jM.ofF (by decide +kernel) rfl (Nat.le_of_ble_eq_true rfl) (fun X hX hI0 => ?_)
  have hI := hI0 rfl
  have EP : jP h h o := jP.rf
  show jV cX1_init RX1 1 X (some (1, 16)) 0 [some (.ref o)] [] h
  refine e_al0 dX1_init_0 ?_
  refine e_obj dX1_init_1 oX1_1 w_obj (by decide) (Nat.le_of_ble_eq_true rfl) ?_
  refine e_al0 dX1_init_4 ?_
  refine e_bipush (nI 16) dX1_init_5 (by decide) ?_
  refine e_newa (N := 16) (K := 0) (M := 0) dX1_init_7 arr_int (nI_pos (by omega)) (nI_clamp (by omega)) (by omega) (by omega) ?_
  rw [hl]
  refine e_abs (fun h1 hh => ?_)
  replace hO := jap hh hO
  have A1 := jap_new hh hl
  replace EP := EP.ap hh hl (by omega)
  replace hl : h1.length = o + 2 := by have := jap_len hh hl; omega
  clear hh
  refine e_putF dX1_init_9 fX1_9 hI (by intro C T N hC; cases hC; rfl) hO (Nat.le_of_ble_eq_true rfl) (fun g => ⟨rfl, rfl⟩) ?_
  refine e_abs (fun h1 hh => ?_)
  replace hO := jhs_at hh hO
  replace A1 := jhs hh A1 (by omega)
  replace EP := EP.st hh (by omega)
  replace hl := jset_len hh hl
  clear hh
  refine e_al0 dX1_init_12 ?_
  refine e_iconst (nI 0) dX1_init_13 (by decide) ?_
  refine e_put dX1_init_14 fX1_13 hO (Nat.le_of_ble_eq_true rfl) (fun g => ⟨rfl, rfl⟩) ?_
  refine e_abs (fun h1 hh => ?_)
  replace hO := jhs_at hh hO
  replace A1 := jhs hh A1 (by omega)
  replace EP := EP.st hh (by omega)
  replace hl := jset_len hh hl
  clear hh
  exact e_ret hX dX1_init_17 (⟨rfl, hl, ⟨hO, A1⟩, EP⟩) (fun _ => rfl)
set_option maxRecDepth 100000 in
set_option maxHeartbeats 4000000 in
theorem lp_X4_init {h0 : jH} {o : Nat} {X : jX} (hX : jRet X (none) (some (3, 336)) (fun v h' => v = none ∧ h'.length = o + 4 ∧ pX4 h' o ∧ jP h0 h' o)) : ∀ (m i : Nat) (h : jH) (L : Nat → Int32), 8 - i < m → i ≤ 8 → h.length = o + 4 → h[o]? = some (jO 4 [.ref (o + 1), .ref (o + 2), .ref (o + 3)]) → h[o + 1]? = some (jI 8 L) → h[o + 2]? = some (jN 8 z0) → h[o + 3]? = some (jN 320 z0) → jP h0 h o → (∀ r, r < i → L r = -1) → jV cX4_init RX4 1 X (some (0, 0)) 31 [some (.ref o), some (.int (nI i))] [] h := by
  intro m
  induction m with
  | zero => intros; omega
  | succ m ih =>
    intro i h L hm hi hl hO A1 A2 A3 EP hL
    refine e_il1 dX4_init_31 ?_
    refine e_bipush (nI 8) dX4_init_32 (by decide) ?_
    refine e_ic_geN 50 dX4_init_34 (by decide) (by omega) (by omega) (fun c_34 => ?_) (fun c_34 => ?_)
    · exact e_ret hX dX4_init_50 (⟨rfl, hl, ⟨hO, ⟨_, A1, fun r hr => hL r (by omega)⟩, A2, A3⟩, EP⟩) (fun _ => rfl)
    · refine e_al0 dX4_init_37 ?_
      refine e_get dX4_init_38 fX4_9 hO rfl ?_
      refine e_il1 dX4_init_41 ?_
      refine e_iconst (-1) dX4_init_42 (by decide) ?_
      refine e_iastI dX4_init_43 A1 (by omega) (by decide) ?_
      refine e_abs (fun h1 hh => ?_)
      replace hO := jhs hh hO (by omega)
      replace A1 := jhs_at hh A1
      replace A2 := jhs hh A2 (by omega)
      replace A3 := jhs hh A3 (by omega)
      replace EP := EP.st hh (by omega)
      replace hl := jset_len hh hl
      clear hh
      refine e_inc1N dX4_init_44 rfl ?_
      refine e_goto 31 dX4_init_47 (by decide) ?_
      exact ih (i + 1) _ _ (by omega) (by omega) hl hO A1 A2 A3 EP (fun r hr => by
        unfold upd
        by_cases e : r = i
        · rw [if_pos e]
        · rw [if_neg e]; exact hL r (by omega))
set_option maxRecDepth 100000 in
set_option maxHeartbeats 4000000 in
theorem m_X4_init {h : jH} {o : Nat} (hl : h.length = o + 1) (hO : h[o]? = some (jO 4 [.null, .null, .null])) (ho : o < 700) : jM yX4_init cX4_init 2 (none : Option Jvm.ClassFile.FieldType) 1 (some (3, 336)) [.ref o] h (fun v h' => v = none ∧ h'.length = o + 4 ∧ pX4 h' o ∧ jP h h' o) := by
  refine jM.ofF (by decide +kernel) rfl (Nat.le_of_ble_eq_true rfl) (fun X hX hI0 => ?_)
  have hI := hI0 rfl
  have EP : jP h h o := jP.rf
  show jV cX4_init RX4 1 X (some (3, 336)) 0 [some (.ref o), none] [] h
  refine e_al0 dX4_init_0 ?_
  refine e_obj dX4_init_1 oX4_1 w_obj (by decide) (Nat.le_of_ble_eq_true rfl) ?_
  refine e_al0 dX4_init_4 ?_
  refine e_bipush (nI 8) dX4_init_5 (by decide) ?_
  refine e_newa (N := 8) (K := 2) (M := 328) dX4_init_7 arr_int (nI_pos (by omega)) (nI_clamp (by omega)) (by omega) (by omega) ?_
  rw [hl]
  refine e_abs (fun h1 hh => ?_)
  replace hO := jap hh hO
  have A1 := jap_new hh hl
  replace EP := EP.ap hh hl (by omega)
  replace hl : h1.length = o + 2 := by have := jap_len hh hl; omega
  clear hh
  refine e_putF dX4_init_9 fX4_9 hI (by intro C T N hC; cases hC; rfl) hO (Nat.le_of_ble_eq_true rfl) (fun g => ⟨rfl, rfl⟩) ?_
  refine e_abs (fun h1 hh => ?_)
  replace hO := jhs_at hh hO
  replace A1 := jhs hh A1 (by omega)
  replace EP := EP.st hh (by omega)
  replace hl := jset_len hh hl
  clear hh
  refine e_al0 dX4_init_12 ?_
  refine e_bipush (nI 8) dX4_init_13 (by decide) ?_
  refine e_newa (N := 8) (K := 1) (M := 320) dX4_init_15 arr_int (nI_pos (by omega)) (nI_clamp (by omega)) (by omega) (by omega) ?_
  rw [hl]
  refine e_abs (fun h1 hh => ?_)
  replace hO := jap hh hO
  replace A1 := jap hh A1
  have A2 := jap_new hh hl
  replace EP := EP.ap hh hl (by omega)
  replace hl : h1.length = o + 3 := by have := jap_len hh hl; omega
  clear hh
  refine e_putF dX4_init_17 fX4_13 hI (by intro C T N hC; cases hC; rfl) hO (Nat.le_of_ble_eq_true rfl) (fun g => ⟨rfl, rfl⟩) ?_
  refine e_abs (fun h1 hh => ?_)
  replace hO := jhs_at hh hO
  replace A1 := jhs hh A1 (by omega)
  replace A2 := jhs hh A2 (by omega)
  replace EP := EP.st hh (by omega)
  replace hl := jset_len hh hl
  clear hh
  refine e_al0 dX4_init_20 ?_
  refine e_sipush (nI 320) dX4_init_21 (by decide) ?_
  refine e_newa (N := 320) (K := 0) (M := 0) dX4_init_24 arr_int (nI_pos (by omega)) (nI_clamp (by omega)) (by omega) (by omega) ?_
  rw [hl]
  refine e_abs (fun h1 hh => ?_)
  replace hO := jap hh hO
  replace A1 := jap hh A1
  replace A2 := jap hh A2
  have A3 := jap_new hh hl
  replace EP := EP.ap hh hl (by omega)
  replace hl : h1.length = o + 4 := by have := jap_len hh hl; omega
  clear hh
  refine e_putF dX4_init_26 fX4_16 hI (by intro C T N hC; cases hC; rfl) hO (Nat.le_of_ble_eq_true rfl) (fun g => ⟨rfl, rfl⟩) ?_
  refine e_abs (fun h1 hh => ?_)
  replace hO := jhs_at hh hO
  replace A1 := jhs hh A1 (by omega)
  replace A2 := jhs hh A2 (by omega)
  replace A3 := jhs hh A3 (by omega)
  replace EP := EP.st hh (by omega)
  replace hl := jset_len hh hl
  clear hh
  refine e_iconst (nI 0) dX4_init_29 (by decide) ?_
  refine e_is1 dX4_init_30 rfl ?_
  exact lp_X4_init hX 9 0 _ _ (by omega) (by omega) hl hO A1 A2 A3 EP (fun r hr => absurd hr (Nat.not_lt_zero r))
set_option maxRecDepth 100000 in
set_option maxHeartbeats 4000000 in
theorem m_X5_init {h : jH} {o : Nat} (hl : h.length = o + 1) (hO : h[o]? = some (jO 5 [.null, .null, .int 0, .int 0, .int 0])) (ho : o < 700) : jM yX5_init cX5_init 1 (none : Option Jvm.ClassFile.FieldType) 2 (some (8, 155)) [.ref o] h (fun v h' => v = none ∧ h'.length = o + 9 ∧ pX5 h' o ∧ jP h h' o) := by
  refine jM.ofF (by decide +kernel) rfl (Nat.le_of_ble_eq_true rfl) (fun X hX hI0 => ?_)
  have hI := hI0 rfl
  have EP : jP h h o := jP.rf
  show jV cX5_init RX5 2 X (some (8, 155)) 0 [some (.ref o)] [] h
  refine e_al0 dX5_init_0 ?_
  refine e_obj dX5_init_1 oX5_3 w_obj (by decide) (Nat.le_of_ble_eq_true rfl) ?_
  refine e_al0 dX5_init_4 ?_
  refine e_new (K := 7) (M := 144) [.int 0, .int 0, .int 0, .int 0, .int 0, .null, .null, .null, .null, .null, .null] dX5_init_5 clX3 lX5_9 mkX3 iniX3 dfX3 (fun g => rfl) (by omega) ?_
  rw [hl]
  refine e_abs (fun h1 hh => ?_)
  replace hO := jap hh hO
  have A1 := jap_new hh hl
  replace EP := EP.ap hh hl (by omega)
  replace hl : h1.length = o + 2 := by have := jap_len hh hl; omega
  clear hh
  refine e_dup dX5_init_8 rfl ?_
  refine e_ci dX5_init_9 iX5_11 (m_X3_init hl A1 (by omega)) (by decide) rfl rfl (Nat.le_of_ble_eq_true rfl) (jBud1 (k := 1) (n := 100) (mc := 6) (ms := 44)) ?_
  rintro _ h1 ⟨rfl, hl, B1, EC⟩
  replace hO := EC.at hO (by omega)
  replace EP := EP.tr EC (by omega)
  clear EC
  replace hl : h1.length = o + 8 := by omega
  refine e_putF dX5_init_12 fX5_12 hI (by intro C T N hC; cases hC; rfl) hO (Nat.le_of_ble_eq_true rfl) (fun g => ⟨rfl, rfl⟩) ?_
  refine e_abs (fun h1 hh => ?_)
  replace hO := jhs_at hh hO
  replace B1 := HC.hs hh B1 (by omega)
  replace EP := EP.st hh (by omega)
  replace hl := jset_len hh hl
  clear hh
  refine e_al0 dX5_init_15 ?_
  refine e_bipush (nI 100) dX5_init_16 (by decide) ?_
  refine e_newa (N := 100) (K := 0) (M := 0) dX5_init_18 arr_int (nI_pos (by omega)) (nI_clamp (by omega)) (by omega) (by omega) ?_
  rw [hl]
  refine e_abs (fun h1 hh => ?_)
  replace hO := jap hh hO
  replace B1 := HC0.ap hh B1
  have A8 := jap_new hh hl
  replace EP := EP.ap hh hl (by omega)
  replace hl : h1.length = o + 9 := by have := jap_len hh hl; omega
  clear hh
  refine e_putF dX5_init_20 fX5_18 hI (by intro C T N hC; cases hC; rfl) hO (Nat.le_of_ble_eq_true rfl) (fun g => ⟨rfl, rfl⟩) ?_
  refine e_abs (fun h1 hh => ?_)
  replace hO := jhs_at hh hO
  replace A8 := jhs hh A8 (by omega)
  replace B1 := HC.hs hh B1 (by omega)
  replace EP := EP.st hh (by omega)
  replace hl := jset_len hh hl
  clear hh
  refine e_al0 dX5_init_23 ?_
  refine e_iconst (nI 0) dX5_init_24 (by decide) ?_
  refine e_put dX5_init_25 fX5_22 hO (Nat.le_of_ble_eq_true rfl) (fun g => ⟨rfl, rfl⟩) ?_
  refine e_abs (fun h1 hh => ?_)
  replace hO := jhs_at hh hO
  replace A8 := jhs hh A8 (by omega)
  replace B1 := HC.hs hh B1 (by omega)
  replace EP := EP.st hh (by omega)
  replace hl := jset_len hh hl
  clear hh
  refine e_al0 dX5_init_28 ?_
  refine e_iconst (nI 0) dX5_init_29 (by decide) ?_
  refine e_put dX5_init_30 fX5_26 hO (Nat.le_of_ble_eq_true rfl) (fun g => ⟨rfl, rfl⟩) ?_
  refine e_abs (fun h1 hh => ?_)
  replace hO := jhs_at hh hO
  replace A8 := jhs hh A8 (by omega)
  replace B1 := HC.hs hh B1 (by omega)
  replace EP := EP.st hh (by omega)
  replace hl := jset_len hh hl
  clear hh
  refine e_al0 dX5_init_33 ?_
  refine e_iconst (nI 0) dX5_init_34 (by decide) ?_
  refine e_put dX5_init_35 fX5_29 hO (Nat.le_of_ble_eq_true rfl) (fun g => ⟨rfl, rfl⟩) ?_
  refine e_abs (fun h1 hh => ?_)
  replace hO := jhs_at hh hO
  replace A8 := jhs hh A8 (by omega)
  replace B1 := HC.hs hh B1 (by omega)
  replace EP := EP.st hh (by omega)
  replace hl := jset_len hh hl
  clear hh
  exact e_ret hX dX5_init_38 (⟨rfl, hl, ⟨hO, B1, A8⟩, EP⟩) (fun _ => rfl)
set_option maxRecDepth 100000 in
set_option maxHeartbeats 4000000 in
theorem m_X2_init {h : jH} {o : Nat} (hl : h.length = o + 1) (hO : h[o]? = some (jO 2 [.null, .null, .null])) (ho : o < 700) : jM yX2_init cX2_init 1 (none : Option Jvm.ClassFile.FieldType) 2 (some (9, 105)) [.ref o] h (fun v h' => v = none ∧ h'.length = o + 10 ∧ pX2 h' o ∧ jP h h' o) := by
  refine jM.ofF (by decide +kernel) rfl (Nat.le_of_ble_eq_true rfl) (fun X hX hI0 => ?_)
  have hI := hI0 rfl
  have EP : jP h h o := jP.rf
  show jV cX2_init RX2 2 X (some (9, 105)) 0 [some (.ref o)] [] h
  refine e_al0 dX2_init_0 ?_
  refine e_obj dX2_init_1 oX2_3 w_obj (by decide) (Nat.le_of_ble_eq_true rfl) ?_
  refine e_al0 dX2_init_4 ?_
  refine e_new (K := 8) (M := 94) [.int 0, .int 0, .int 0, .int 0, .int 0, .null, .null, .null, .null, .null, .null] dX2_init_5 clX3 lX2_9 mkX3 iniX3 dfX3 (fun g => rfl) (by omega) ?_
  rw [hl]
  refine e_abs (fun h1 hh => ?_)
  replace hO := jap hh hO
  have A1 := jap_new hh hl
  replace EP := EP.ap hh hl (by omega)
  replace hl : h1.length = o + 2 := by have := jap_len hh hl; omega
  clear hh
  refine e_dup dX2_init_8 rfl ?_
  refine e_ci dX2_init_9 iX2_11 (m_X3_init hl A1 (by omega)) (by decide) rfl rfl (Nat.le_of_ble_eq_true rfl) (jBud1 (k := 2) (n := 50) (mc := 6) (ms := 44)) ?_
  rintro _ h1 ⟨rfl, hl, B1, EC⟩
  replace hO := EC.at hO (by omega)
  replace EP := EP.tr EC (by omega)
  clear EC
  replace hl : h1.length = o + 8 := by omega
  refine e_putF dX2_init_12 fX2_12 hI (by intro C T N hC; cases hC; rfl) hO (Nat.le_of_ble_eq_true rfl) (fun g => ⟨rfl, rfl⟩) ?_
  refine e_abs (fun h1 hh => ?_)
  replace hO := jhs_at hh hO
  replace B1 := HC.hs hh B1 (by omega)
  replace EP := EP.st hh (by omega)
  replace hl := jset_len hh hl
  clear hh
  refine e_al0 dX2_init_15 ?_
  refine e_bipush (nI 25) dX2_init_16 (by decide) ?_
  refine e_newa (N := 25) (K := 1) (M := 25) dX2_init_18 arr_int (nI_pos (by omega)) (nI_clamp (by omega)) (by omega) (by omega) ?_
  rw [hl]
  refine e_abs (fun h1 hh => ?_)
  replace hO := jap hh hO
  replace B1 := HC0.ap hh B1
  have A8 := jap_new hh hl
  replace EP := EP.ap hh hl (by omega)
  replace hl : h1.length = o + 9 := by have := jap_len hh hl; omega
  clear hh
  refine e_putF dX2_init_20 fX2_18 hI (by intro C T N hC; cases hC; rfl) hO (Nat.le_of_ble_eq_true rfl) (fun g => ⟨rfl, rfl⟩) ?_
  refine e_abs (fun h1 hh => ?_)
  replace hO := jhs_at hh hO
  replace A8 := jhs hh A8 (by omega)
  replace B1 := HC.hs hh B1 (by omega)
  replace EP := EP.st hh (by omega)
  replace hl := jset_len hh hl
  clear hh
  refine e_al0 dX2_init_23 ?_
  refine e_bipush (nI 25) dX2_init_24 (by decide) ?_
  refine e_newa (N := 25) (K := 0) (M := 0) dX2_init_26 arr_int (nI_pos (by omega)) (nI_clamp (by omega)) (by omega) (by omega) ?_
  rw [hl]
  refine e_abs (fun h1 hh => ?_)
  replace hO := jap hh hO
  replace A8 := jap hh A8
  replace B1 := HC0.ap hh B1
  have A9 := jap_new hh hl
  replace EP := EP.ap hh hl (by omega)
  replace hl : h1.length = o + 10 := by have := jap_len hh hl; omega
  clear hh
  refine e_putF dX2_init_28 fX2_22 hI (by intro C T N hC; cases hC; rfl) hO (Nat.le_of_ble_eq_true rfl) (fun g => ⟨rfl, rfl⟩) ?_
  refine e_abs (fun h1 hh => ?_)
  replace hO := jhs_at hh hO
  replace A8 := jhs hh A8 (by omega)
  replace A9 := jhs hh A9 (by omega)
  replace B1 := HC.hs hh B1 (by omega)
  replace EP := EP.st hh (by omega)
  replace hl := jset_len hh hl
  clear hh
  exact e_ret hX dX2_init_31 (⟨rfl, hl, ⟨hO, B1, A8, A9⟩, EP⟩) (fun _ => rfl)
set_option maxRecDepth 100000 in
set_option maxHeartbeats 4000000 in
theorem lp_X0_init {h0 : jH} {o : Nat} (ho : o < 700) {X : jX} (hX : jRet X (none) (some (169, 1344)) (fun v h' => v = none ∧ h'.length = o + 170 ∧ pX0 h' o ∧ jP h0 h' o)) : ∀ (m i : Nat) (h : jH) (rf : Nat → Option Nat), i + m = 24 → h.length = o + 2 + 7 * i → h[o]? = some (jO 0 [.ref (o + 1), .int 0, .int 0]) → h[o + 1]? = some (jR 24 rf) → (∀ j, j < i → rf j = some (o + 2 + 7 * j)) → (∀ j, j < i → HC0 h (o + 2 + 7 * j)) → jP h0 h o → jV cX0_init RX0 2 X (some (7 * m, 55 * m)) 15 [some (.ref o), some (.int (nI i))] [] h := by
  intro m
  induction m with
  | zero =>
    intro i h rf hm hl hO A1 hr hH EP
    refine e_il1 dX0_init_15 ?_
    refine e_bipush (nI 24) dX0_init_16 (by decide) ?_
    refine e_ic_geN 40 dX0_init_18 (by decide) (by omega) (by omega) (fun c_18 => ?_) (fun c_18 => by omega)
    refine e_al0 dX0_init_40 ?_
    refine e_iconst (nI 0) dX0_init_41 (by decide) ?_
    refine e_put dX0_init_42 fX0_16 hO (Nat.le_of_ble_eq_true rfl) (fun g => ⟨rfl, rfl⟩) ?_
    refine e_abs (fun h1 hh => ?_)
    replace hO := jhs_at hh hO
    replace A1 := jhs hh A1 (by omega)
    replace hH : ∀ j, j < i → HC0 h1 (o + 2 + 7 * j) := fun j hj => HC.hs hh (hH j hj) (by omega)
    replace EP := EP.st hh (by omega)
    replace hl := jset_len hh hl
    clear hh
    refine e_al0 dX0_init_45 ?_
    refine e_iconst (nI 0) dX0_init_46 (by decide) ?_
    refine e_put dX0_init_47 fX0_20 hO (Nat.le_of_ble_eq_true rfl) (fun g => ⟨rfl, rfl⟩) ?_
    refine e_abs (fun h2 hh => ?_)
    replace hO := jhs_at hh hO
    replace A1 := jhs hh A1 (by omega)
    replace hH : ∀ j, j < i → HC0 h2 (o + 2 + 7 * j) := fun j hj => HC.hs hh (hH j hj) (by omega)
    replace EP := EP.st hh (by omega)
    replace hl := jset_len hh hl
    clear hh
    exact e_ret hX dX0_init_50 ⟨rfl, by omega, ⟨hO, ⟨rf, A1, fun j hj => hr j (by omega)⟩, fun j hj => hH j (by omega)⟩, EP⟩ (fun _ => rfl)
  | succ m ih =>
    intro i h rf hm hl hO A1 hr hH EP
    show jV cX0_init RX0 2 X (some (7 * m + 6 + 1, 55 * m + 44 + 11)) 15 [some (.ref o), some (.int (nI i))] [] h
    refine e_il1 dX0_init_15 ?_
    refine e_bipush (nI 24) dX0_init_16 (by decide) ?_
    refine e_ic_geN 40 dX0_init_18 (by decide) (by omega) (by omega) (fun c_18 => by omega) (fun c_18 => ?_)
    refine e_al0 dX0_init_21 ?_
    refine e_get dX0_init_22 fX0_11 hO rfl ?_
    refine e_il1 dX0_init_25 ?_
    refine e_new (K := 7 * m + 6) (M := 55 * m + 44) [.int 0, .int 0, .int 0, .int 0, .int 0, .null, .null, .null, .null, .null, .null] dX0_init_26 clX3 lX0_9 mkX3 iniX3 dfX3 (fun g => rfl) (by omega) ?_
    rw [hl]
    refine e_abs (fun h1 hh => ?_)
    replace hO := jap hh hO
    replace A1 := jap hh A1
    replace hH : ∀ j, j < i → HC0 h1 (o + 2 + 7 * j) := fun j hj => HC0.ap hh (hH j hj)
    have N := jap_new hh hl
    replace EP := EP.ap hh hl (by omega)
    replace hl : h1.length = o + 2 + 7 * i + 1 := jap_len hh hl
    clear hh
    refine e_dup dX0_init_29 rfl ?_
    refine e_ci dX0_init_30 iX0_15 (m_X3_init hl N (by omega)) (by decide) rfl rfl (Nat.le_of_ble_eq_true rfl) (jBud1 (k := 7 * m) (n := 55 * m) (mc := 6) (ms := 44)) ?_
    rintro _ h2 ⟨rfl, hl2, B, EC⟩
    replace hO := EC.at hO (by omega)
    replace A1 := EC.at A1 (by omega)
    replace hH : ∀ j, j < i → HC0 h2 (o + 2 + 7 * j) := fun j hj => HC0.p EC (hH j hj) (by omega)
    replace EP := EP.tr EC (by omega)
    refine e_aast dX0_init_33 A1 (vp_in_nI (by omega) (by omega)) B.1 ?_
    rw [nI_clamp (by omega)]
    refine e_abs (fun h3 hh => ?_)
    replace hO := jhs hh hO (by omega)
    replace A1 := jhs_at hh A1
    replace hH : ∀ j, j < i → HC0 h3 (o + 2 + 7 * j) := fun j hj => HC.hs hh (hH j hj) (by omega)
    replace B : HC0 h3 (o + 2 + 7 * i) := HC.hs hh B (by omega)
    replace EP := EP.st hh (by omega)
    replace hl2 := jset_len hh hl2
    clear hh
    refine e_inc1N dX0_init_34 rfl ?_
    refine e_goto 15 dX0_init_37 (by decide) ?_
    refine ih (i + 1) h3 _ (by omega) (by omega) hO A1 (fun j hj => ?_) (fun j hj => ?_) EP
    · unfold va_up
      by_cases e : j = i
      · rw [if_pos e, e]
      · rw [if_neg e]; exact hr j (by omega)
    · by_cases e : j = i
      · rw [e]; exact B
      · exact hH j (by omega)
set_option maxRecDepth 100000 in
set_option maxHeartbeats 4000000 in
theorem m_X0_init {h : jH} {o : Nat} (hl : h.length = o + 1) (hO : h[o]? = some (jO 0 [.null, .int 0, .int 0])) (ho : o < 700) : jM yX0_init cX0_init 2 (none : Option Jvm.ClassFile.FieldType) 2 (some (169, 1344)) [.ref o] h (fun v h' => v = none ∧ h'.length = o + 170 ∧ pX0 h' o ∧ jP h h' o) := by
  refine jM.ofF (by decide +kernel) rfl (Nat.le_of_ble_eq_true rfl) (fun X hX hI0 => ?_)
  have hI := hI0 rfl
  have EP : jP h h o := jP.rf
  show jV cX0_init RX0 2 X (some (169, 1344)) 0 [some (.ref o), none] [] h
  refine e_al0 dX0_init_0 ?_
  refine e_obj dX0_init_1 oX0_1 w_obj (by decide) (Nat.le_of_ble_eq_true rfl) ?_
  refine e_al0 dX0_init_4 ?_
  refine e_bipush (nI 24) dX0_init_5 (by decide) ?_
  refine e_newr (N := 24) (K := 168) (M := 1320) dX0_init_7 lX0_9 (nI_pos (by omega)) (nI_clamp (by omega)) (by omega) (by omega) ?_
  rw [hl]
  refine e_abs (fun h1 hh => ?_)
  replace hO := jap hh hO
  have A1 := jap_new hh hl
  replace EP := EP.ap hh hl (by omega)
  replace hl : h1.length = o + 2 := by have := jap_len hh hl; omega
  clear hh
  refine e_putF dX0_init_10 fX0_11 hI (by intro C T N hC; cases hC; rfl) hO (Nat.le_of_ble_eq_true rfl) (fun g => ⟨rfl, rfl⟩) ?_
  refine e_abs (fun h1 hh => ?_)
  replace hO := jhs_at hh hO
  replace A1 := jhs hh A1 (by omega)
  replace EP := EP.st hh (by omega)
  replace hl := jset_len hh hl
  clear hh
  refine e_iconst (nI 0) dX0_init_13 (by decide) ?_
  refine e_is1 dX0_init_14 rfl ?_
  exact lp_X0_init ho hX 24 0 _ _ rfl hl hO A1 (fun j hj => absurd hj (Nat.not_lt_zero j)) (fun j hj => absurd hj (Nat.not_lt_zero j)) EP
set_option maxRecDepth 100000 in
set_option maxHeartbeats 4000000 in
theorem m_X6_init {h : jH} (hl : h.length = 1) (hO : h[0]? = some (jO 6 [.null, .null, .null, .null, .null, .null, .null, .int 0])) : jM yX6_init cX6_init 1 (none : Option Jvm.ClassFile.FieldType) 3 (some (217, 2139)) [.ref 0] h (fun v h' => v = none ∧ h'.length = 218 ∧ ∀ h2, jP h' h2 218 → CI h2 S0) := by
  refine jM.ofF (by decide +kernel) rfl (Nat.le_of_ble_eq_true rfl) (fun X hX hI0 => ?_)
  have hI := hI0 rfl
  have EP : jP h h 0 := jP.rf
  show jV cX6_init RX6 3 X (some (217, 2139)) 0 [some (.ref 0)] [] h
  refine e_al0 dX6_init_0 ?_
  refine e_obj dX6_init_1 oX6_1 w_obj (by decide) (Nat.le_of_ble_eq_true rfl) ?_
  refine e_al0 dX6_init_4 ?_
  refine e_new (K := 216) (M := 2136) [.null, .null, .null] dX6_init_5 clX4 lX6_7 mkX4 iniX4 dfX4 (fun g => rfl) (by omega) ?_
  rw [hl]
  refine e_abs (fun h1 hh => ?_)
  replace hO := jap hh hO
  have A1 := jap_new hh hl
  replace EP := EP.ap hh hl (by omega)
  replace hl : h1.length = 2 := by have := jap_len hh hl; omega
  clear hh
  refine e_dup dX6_init_8 rfl ?_
  refine e_ci dX6_init_9 iX6_9 (m_X4_init hl A1 (by omega)) (by decide) rfl rfl (Nat.le_of_ble_eq_true rfl) (jBud1 (k := 213) (n := 1800) (mc := 3) (ms := 336)) ?_
  rintro _ h1 ⟨rfl, hl, B1, EC⟩
  replace hO := EC.at hO (by omega)
  replace EP := EP.tr EC (by omega)
  clear EC
  replace hl : h1.length = 5 := by omega
  refine e_putF dX6_init_12 fX6_10 hI (by intro C T N hC; cases hC; rfl) hO (Nat.le_of_ble_eq_true rfl) (fun g => ⟨rfl, rfl⟩) ?_
  refine e_abs (fun h1 hh => ?_)
  replace hO := jhs_at hh hO
  replace B1 := B1.hs hh (by omega)
  replace EP := EP.st hh (by omega)
  replace hl := jset_len hh hl
  clear hh
  refine e_al0 dX6_init_15 ?_
  refine e_new (K := 212) (M := 1795) [.null, .null, .int 0, .int 0, .int 0] dX6_init_16 clX5 lX6_16 mkX5 iniX5 dfX5 (fun g => rfl) (by omega) ?_
  rw [hl]
  refine e_abs (fun h1 hh => ?_)
  replace hO := jap hh hO
  replace B1 := B1.p (jP.rf.ap hh hl (Nat.le_refl _)) (by omega)
  have A5 := jap_new hh hl
  replace EP := EP.ap hh hl (by omega)
  replace hl : h1.length = 6 := by have := jap_len hh hl; omega
  clear hh
  refine e_dup dX6_init_19 rfl ?_
  refine e_ci dX6_init_20 iX6_18 (m_X5_init hl A5 (by omega)) (by decide) rfl rfl (Nat.le_of_ble_eq_true rfl) (jBud1 (k := 204) (n := 1640) (mc := 8) (ms := 155)) ?_
  rintro _ h1 ⟨rfl, hl, B5, EC⟩
  replace hO := EC.at hO (by omega)
  replace B1 := B1.p EC (by omega)
  replace EP := EP.tr EC (by omega)
  clear EC
  replace hl : h1.length = 14 := by omega
  refine e_putF dX6_init_23 fX6_19 hI (by intro C T N hC; cases hC; rfl) hO (Nat.le_of_ble_eq_true rfl) (fun g => ⟨rfl, rfl⟩) ?_
  refine e_abs (fun h1 hh => ?_)
  replace hO := jhs_at hh hO
  replace B1 := B1.hs hh (by omega)
  replace B5 := B5.hs hh (by omega)
  replace EP := EP.st hh (by omega)
  replace hl := jset_len hh hl
  clear hh
  refine e_al0 dX6_init_26 ?_
  refine e_new (K := 203) (M := 1629) [.int 0, .int 0, .int 0, .int 0, .int 0, .null, .null, .null, .null, .null, .null] dX6_init_27 clX3 lX6_23 mkX3 iniX3 dfX3 (fun g => rfl) (by omega) ?_
  rw [hl]
  refine e_abs (fun h1 hh => ?_)
  replace hO := jap hh hO
  replace B1 := B1.p (jP.rf.ap hh hl (Nat.le_refl _)) (by omega)
  replace B5 := B5.p (jP.rf.ap hh hl (Nat.le_refl _)) (by omega)
  have A14 := jap_new hh hl
  replace EP := EP.ap hh hl (by omega)
  replace hl : h1.length = 15 := by have := jap_len hh hl; omega
  clear hh
  refine e_dup dX6_init_30 rfl ?_
  refine e_ci dX6_init_31 iX6_25 (m_X3_init hl A14 (by omega)) (by decide) rfl rfl (Nat.le_of_ble_eq_true rfl) (jBud1 (k := 197) (n := 1585) (mc := 6) (ms := 44)) ?_
  rintro _ h1 ⟨rfl, hl, B14, EC⟩
  replace hO := EC.at hO (by omega)
  replace B1 := B1.p EC (by omega)
  replace B5 := B5.p EC (by omega)
  replace EP := EP.tr EC (by omega)
  clear EC
  replace hl : h1.length = 21 := by omega
  refine e_putF dX6_init_34 fX6_26 hI (by intro C T N hC; cases hC; rfl) hO (Nat.le_of_ble_eq_true rfl) (fun g => ⟨rfl, rfl⟩) ?_
  refine e_abs (fun h1 hh => ?_)
  replace hO := jhs_at hh hO
  replace B14 := HC.hs hh B14 (by omega)
  replace B1 := B1.hs hh (by omega)
  replace B5 := B5.hs hh (by omega)
  replace EP := EP.st hh (by omega)
  replace hl := jset_len hh hl
  clear hh
  refine e_al0 dX6_init_37 ?_
  refine e_new (K := 196) (M := 1582) [.null, .int 0, .int 0] dX6_init_38 clX0 lX6_30 mkX0 iniX0 dfX0 (fun g => rfl) (by omega) ?_
  rw [hl]
  refine e_abs (fun h1 hh => ?_)
  replace hO := jap hh hO
  replace B14 := HC0.ap hh B14
  replace B1 := B1.p (jP.rf.ap hh hl (Nat.le_refl _)) (by omega)
  replace B5 := B5.p (jP.rf.ap hh hl (Nat.le_refl _)) (by omega)
  have A21 := jap_new hh hl
  replace EP := EP.ap hh hl (by omega)
  replace hl : h1.length = 22 := by have := jap_len hh hl; omega
  clear hh
  refine e_dup dX6_init_41 rfl ?_
  refine e_ci dX6_init_42 iX6_32 (m_X0_init hl A21 (by omega)) (by decide) rfl rfl (Nat.le_of_ble_eq_true rfl) (jBud1 (k := 27) (n := 238) (mc := 169) (ms := 1344)) ?_
  rintro _ h1 ⟨rfl, hl, B21, EC⟩
  replace hO := EC.at hO (by omega)
  replace B14 := HC0.p EC B14 (by omega)
  replace B1 := B1.p EC (by omega)
  replace B5 := B5.p EC (by omega)
  replace EP := EP.tr EC (by omega)
  clear EC
  replace hl : h1.length = 191 := by omega
  refine e_putF dX6_init_45 fX6_33 hI (by intro C T N hC; cases hC; rfl) hO (Nat.le_of_ble_eq_true rfl) (fun g => ⟨rfl, rfl⟩) ?_
  refine e_abs (fun h1 hh => ?_)
  replace hO := jhs_at hh hO
  replace B14 := HC.hs hh B14 (by omega)
  replace B1 := B1.hs hh (by omega)
  replace B5 := B5.hs hh (by omega)
  replace B21 := B21.hs hh (by omega)
  replace EP := EP.st hh (by omega)
  replace hl := jset_len hh hl
  clear hh
  refine e_al0 dX6_init_48 ?_
  refine e_iconst (nI 2) dX6_init_49 (by decide) ?_
  refine e_newr (N := 2) (K := 26) (M := 236) dX6_init_50 lX6_23 (nI_pos (by omega)) (nI_clamp (by omega)) (by omega) (by omega) ?_
  rw [hl]
  refine e_abs (fun h1 hh => ?_)
  replace hO := jap hh hO
  replace B14 := HC0.ap hh B14
  replace B1 := B1.p (jP.rf.ap hh hl (Nat.le_refl _)) (by omega)
  replace B5 := B5.p (jP.rf.ap hh hl (Nat.le_refl _)) (by omega)
  replace B21 := B21.p (jP.rf.ap hh hl (Nat.le_refl _)) (by omega)
  have A191 := jap_new hh hl
  replace EP := EP.ap hh hl (by omega)
  replace hl : h1.length = 192 := by have := jap_len hh hl; omega
  clear hh
  refine e_dup dX6_init_53 rfl ?_
  refine e_iconst (nI 0) dX6_init_54 (by decide) ?_
  refine e_new (K := 25) (M := 225) [.int 0, .int 0, .int 0, .int 0, .int 0, .null, .null, .null, .null, .null, .null] dX6_init_55 clX3 lX6_23 mkX3 iniX3 dfX3 (fun g => rfl) (by omega) ?_
  rw [hl]
  refine e_abs (fun h1 hh => ?_)
  replace hO := jap hh hO
  replace A191 := jap hh A191
  replace B14 := HC0.ap hh B14
  replace B1 := B1.p (jP.rf.ap hh hl (Nat.le_refl _)) (by omega)
  replace B5 := B5.p (jP.rf.ap hh hl (Nat.le_refl _)) (by omega)
  replace B21 := B21.p (jP.rf.ap hh hl (Nat.le_refl _)) (by omega)
  have A192 := jap_new hh hl
  replace EP := EP.ap hh hl (by omega)
  replace hl : h1.length = 193 := by have := jap_len hh hl; omega
  clear hh
  refine e_dup dX6_init_58 rfl ?_
  refine e_ci dX6_init_59 iX6_25 (m_X3_init hl A192 (by omega)) (by decide) rfl rfl (Nat.le_of_ble_eq_true rfl) (jBud1 (k := 19) (n := 181) (mc := 6) (ms := 44)) ?_
  rintro _ h1 ⟨rfl, hl, B192, EC⟩
  replace hO := EC.at hO (by omega)
  replace A191 := EC.at A191 (by omega)
  replace B14 := HC0.p EC B14 (by omega)
  replace B1 := B1.p EC (by omega)
  replace B5 := B5.p EC (by omega)
  replace B21 := B21.p EC (by omega)
  replace EP := EP.tr EC (by omega)
  clear EC
  replace hl : h1.length = 199 := by omega
  refine e_aast dX6_init_62 A191 (vp_in_nI (by omega) (by omega)) B192.1 ?_
  rw [nI_clamp (by omega)]
  refine e_abs (fun h1 hh => ?_)
  replace hO := jhs hh hO (by omega)
  replace A191 := jhs_at hh A191
  replace B14 := HC.hs hh B14 (by omega)
  replace B192 := HC.hs hh B192 (by omega)
  replace B1 := B1.hs hh (by omega)
  replace B5 := B5.hs hh (by omega)
  replace B21 := B21.hs hh (by omega)
  replace EP := EP.st hh (by omega)
  replace hl := jset_len hh hl
  clear hh
  refine e_dup dX6_init_63 rfl ?_
  refine e_iconst (nI 1) dX6_init_64 (by decide) ?_
  refine e_new (K := 18) (M := 170) [.int 0, .int 0, .int 0, .int 0, .int 0, .null, .null, .null, .null, .null, .null] dX6_init_65 clX3 lX6_23 mkX3 iniX3 dfX3 (fun g => rfl) (by omega) ?_
  rw [hl]
  refine e_abs (fun h1 hh => ?_)
  replace hO := jap hh hO
  replace A191 := jap hh A191
  replace B14 := HC0.ap hh B14
  replace B192 := HC0.ap hh B192
  replace B1 := B1.p (jP.rf.ap hh hl (Nat.le_refl _)) (by omega)
  replace B5 := B5.p (jP.rf.ap hh hl (Nat.le_refl _)) (by omega)
  replace B21 := B21.p (jP.rf.ap hh hl (Nat.le_refl _)) (by omega)
  have A199 := jap_new hh hl
  replace EP := EP.ap hh hl (by omega)
  replace hl : h1.length = 200 := by have := jap_len hh hl; omega
  clear hh
  refine e_dup dX6_init_68 rfl ?_
  refine e_ci dX6_init_69 iX6_25 (m_X3_init hl A199 (by omega)) (by decide) rfl rfl (Nat.le_of_ble_eq_true rfl) (jBud1 (k := 12) (n := 126) (mc := 6) (ms := 44)) ?_
  rintro _ h1 ⟨rfl, hl, B199, EC⟩
  replace hO := EC.at hO (by omega)
  replace A191 := EC.at A191 (by omega)
  replace B14 := HC0.p EC B14 (by omega)
  replace B192 := HC0.p EC B192 (by omega)
  replace B1 := B1.p EC (by omega)
  replace B5 := B5.p EC (by omega)
  replace B21 := B21.p EC (by omega)
  replace EP := EP.tr EC (by omega)
  clear EC
  replace hl : h1.length = 206 := by omega
  refine e_aast dX6_init_72 A191 (vp_in_nI (by omega) (by omega)) B199.1 ?_
  rw [nI_clamp (by omega)]
  refine e_abs (fun h1 hh => ?_)
  replace hO := jhs hh hO (by omega)
  replace A191 := jhs_at hh A191
  replace B14 := HC.hs hh B14 (by omega)
  replace B192 := HC.hs hh B192 (by omega)
  replace B199 := HC.hs hh B199 (by omega)
  replace B1 := B1.hs hh (by omega)
  replace B5 := B5.hs hh (by omega)
  replace B21 := B21.hs hh (by omega)
  replace EP := EP.st hh (by omega)
  replace hl := jset_len hh hl
  clear hh
  refine e_putF dX6_init_73 fX6_37 hI (by intro C T N hC; cases hC; rfl) hO (Nat.le_of_ble_eq_true rfl) (fun g => ⟨rfl, rfl⟩) ?_
  refine e_abs (fun h1 hh => ?_)
  replace hO := jhs_at hh hO
  replace A191 := jhs hh A191 (by omega)
  replace B14 := HC.hs hh B14 (by omega)
  replace B192 := HC.hs hh B192 (by omega)
  replace B199 := HC.hs hh B199 (by omega)
  replace B1 := B1.hs hh (by omega)
  replace B5 := B5.hs hh (by omega)
  replace B21 := B21.hs hh (by omega)
  replace EP := EP.st hh (by omega)
  replace hl := jset_len hh hl
  clear hh
  refine e_al0 dX6_init_76 ?_
  refine e_new (K := 11) (M := 123) [.null, .null, .null] dX6_init_77 clX2 lX6_41 mkX2 iniX2 dfX2 (fun g => rfl) (by omega) ?_
  rw [hl]
  refine e_abs (fun h1 hh => ?_)
  replace hO := jap hh hO
  replace A191 := jap hh A191
  replace B14 := HC0.ap hh B14
  replace B192 := HC0.ap hh B192
  replace B199 := HC0.ap hh B199
  replace B1 := B1.p (jP.rf.ap hh hl (Nat.le_refl _)) (by omega)
  replace B5 := B5.p (jP.rf.ap hh hl (Nat.le_refl _)) (by omega)
  replace B21 := B21.p (jP.rf.ap hh hl (Nat.le_refl _)) (by omega)
  have A206 := jap_new hh hl
  replace EP := EP.ap hh hl (by omega)
  replace hl : h1.length = 207 := by have := jap_len hh hl; omega
  clear hh
  refine e_dup dX6_init_80 rfl ?_
  refine e_ci dX6_init_81 iX6_43 (m_X2_init hl A206 (by omega)) (by decide) rfl rfl (Nat.le_of_ble_eq_true rfl) (jBud1 (k := 2) (n := 18) (mc := 9) (ms := 105)) ?_
  rintro _ h1 ⟨rfl, hl, B206, EC⟩
  replace hO := EC.at hO (by omega)
  replace A191 := EC.at A191 (by omega)
  replace B14 := HC0.p EC B14 (by omega)
  replace B192 := HC0.p EC B192 (by omega)
  replace B199 := HC0.p EC B199 (by omega)
  replace B1 := B1.p EC (by omega)
  replace B5 := B5.p EC (by omega)
  replace B21 := B21.p EC (by omega)
  replace EP := EP.tr EC (by omega)
  clear EC
  replace hl : h1.length = 216 := by omega
  refine e_putF dX6_init_84 fX6_44 hI (by intro C T N hC; cases hC; rfl) hO (Nat.le_of_ble_eq_true rfl) (fun g => ⟨rfl, rfl⟩) ?_
  refine e_abs (fun h1 hh => ?_)
  replace hO := jhs_at hh hO
  replace A191 := jhs hh A191 (by omega)
  replace B14 := HC.hs hh B14 (by omega)
  replace B192 := HC.hs hh B192 (by omega)
  replace B199 := HC.hs hh B199 (by omega)
  replace B1 := B1.hs hh (by omega)
  replace B5 := B5.hs hh (by omega)
  replace B21 := B21.hs hh (by omega)
  replace B206 := B206.hs hh (by omega)
  replace EP := EP.st hh (by omega)
  replace hl := jset_len hh hl
  clear hh
  refine e_al0 dX6_init_87 ?_
  refine e_new (K := 1) (M := 16) [.null, .int 0] dX6_init_88 clX1 lX6_48 mkX1 iniX1 dfX1 (fun g => rfl) (by omega) ?_
  rw [hl]
  refine e_abs (fun h1 hh => ?_)
  replace hO := jap hh hO
  replace A191 := jap hh A191
  replace B14 := HC0.ap hh B14
  replace B192 := HC0.ap hh B192
  replace B199 := HC0.ap hh B199
  replace B1 := B1.p (jP.rf.ap hh hl (Nat.le_refl _)) (by omega)
  replace B5 := B5.p (jP.rf.ap hh hl (Nat.le_refl _)) (by omega)
  replace B21 := B21.p (jP.rf.ap hh hl (Nat.le_refl _)) (by omega)
  replace B206 := B206.p (jP.rf.ap hh hl (Nat.le_refl _)) (by omega)
  have A216 := jap_new hh hl
  replace EP := EP.ap hh hl (by omega)
  replace hl : h1.length = 217 := by have := jap_len hh hl; omega
  clear hh
  refine e_dup dX6_init_91 rfl ?_
  refine e_ci dX6_init_92 iX6_50 (m_X1_init hl A216 (by omega)) (by decide) rfl rfl (Nat.le_of_ble_eq_true rfl) (jBud1 (k := 0) (n := 0) (mc := 1) (ms := 16)) ?_
  rintro _ h1 ⟨rfl, hl, B216, EC⟩
  replace hO := EC.at hO (by omega)
  replace A191 := EC.at A191 (by omega)
  replace B14 := HC0.p EC B14 (by omega)
  replace B192 := HC0.p EC B192 (by omega)
  replace B199 := HC0.p EC B199 (by omega)
  replace B1 := B1.p EC (by omega)
  replace B5 := B5.p EC (by omega)
  replace B21 := B21.p EC (by omega)
  replace B206 := B206.p EC (by omega)
  replace EP := EP.tr EC (by omega)
  clear EC
  replace hl : h1.length = 218 := by omega
  refine e_putF dX6_init_95 fX6_51 hI (by intro C T N hC; cases hC; rfl) hO (Nat.le_of_ble_eq_true rfl) (fun g => ⟨rfl, rfl⟩) ?_
  refine e_abs (fun h1 hh => ?_)
  replace hO := jhs_at hh hO
  replace A191 := jhs hh A191 (by omega)
  replace B14 := HC.hs hh B14 (by omega)
  replace B192 := HC.hs hh B192 (by omega)
  replace B199 := HC.hs hh B199 (by omega)
  replace B1 := B1.hs hh (by omega)
  replace B5 := B5.hs hh (by omega)
  replace B21 := B21.hs hh (by omega)
  replace B206 := B206.hs hh (by omega)
  replace B216 := B216.hs hh (by omega)
  replace EP := EP.st hh (by omega)
  replace hl := jset_len hh hl
  clear hh
  refine e_al0 dX6_init_98 ?_
  refine e_iconst (nI 0) dX6_init_99 (by decide) ?_
  refine e_put dX6_init_100 fX6_55 hO (Nat.le_of_ble_eq_true rfl) (fun g => ⟨rfl, rfl⟩) ?_
  refine e_abs (fun h1 hh => ?_)
  replace hO := jhs_at hh hO
  replace A191 := jhs hh A191 (by omega)
  replace B14 := HC.hs hh B14 (by omega)
  replace B192 := HC.hs hh B192 (by omega)
  replace B199 := HC.hs hh B199 (by omega)
  replace B1 := B1.hs hh (by omega)
  replace B5 := B5.hs hh (by omega)
  replace B21 := B21.hs hh (by omega)
  replace B206 := B206.hs hh (by omega)
  replace B216 := B216.hs hh (by omega)
  replace EP := EP.st hh (by omega)
  replace hl := jset_len hh hl
  clear hh
  exact e_ret hX dX6_init_103 (by
    refine ⟨rfl, hl, fun h2 Q => ?_⟩
    obtain ⟨r0, ⟨rL, r1, r1'⟩, r2, r3⟩ := B1.p Q (by omega)
    obtain ⟨t0, t1, t2⟩ := B5.p Q (by omega)
    obtain ⟨a0, ⟨rf, a1, a1'⟩, a2⟩ := B21.p Q (by omega)
    obtain ⟨f0, f1, f2, f3⟩ := B206.p Q (by omega)
    obtain ⟨k0, k1⟩ := B216.p Q (by omega)
    refine ⟨Q.at hO (by omega), ⟨r0, rL, _, _, r1, r2, r3, fun r hr => r1' r hr, fun _ _ => rfl, fun _ _ _ hi => absurd hi (Nat.not_lt_zero _)⟩, ⟨⟨_, t0⟩, t1.x, _, t2, fun _ hi => absurd hi (Nat.not_lt_zero _)⟩, (HC0.p Q B14 (by omega)).a, ⟨0, rf, by omega, a0, a1, fun i hi => (a1' i hi).trans (by congr 1), fun i hi => (a2 i hi).x, fun _ hj => absurd hj (Nat.not_lt_zero _)⟩, ⟨⟨_, Q.at A191 (by omega), fun i hi => ?_⟩, fun k hk => ?_⟩, ⟨f0, f1.x, ⟨_, f2⟩, _, f3⟩, k0, _, k1, fun _ hi => absurd hi (Nat.not_lt_zero _)⟩
    · rcases (show i = 0 ∨ i = 1 by omega) with rfl | rfl <;> rfl
    · rcases (show k = 0 ∨ k = 1 by omega) with rfl | rfl
      · exact (HC0.p Q B192 (by omega)).a
      · exact (HC0.p Q B199 (by omega)).a) (fun _ => rfl)
set_option maxRecDepth 100000 in
set_option maxHeartbeats 4000000 in
theorem lp_X7_init {h0 : jH} {X : jX} (hX : jRet X (none) (some (16, 1749)) (fun v h' => v = none ∧ h'.length = 235 ∧ RI h' S0 ∧ jP h0 h' 218)) : ∀ (m i : Nat) (h : jH) (L : Nat → Int32), 8 - i < m → i ≤ 8 → h.length = 235 → RO h (fun _ => 0) → h[219]? = some (jI 8 L) → h[220]? = some (jN 8 z0) → h[221]? = some (jN 320 z0) → h[222]? = some (jN 40 z0) → h[223]? = some (jN 100 z0) → h[224]? = some (jN 41 z0) → h[225]? = some (jN 41 z0) → h[226]? = some (jN 41 z0) → h[227]? = some (jN 984 z0) → h[228]? = some (jN 82 z0) → h[229]? = some (jZ 2 (fun _ => 0)) → h[230]? = some (jN 8 z0) → h[231]? = some (jN 8 z0) → h[232]? = some (jN 25 z0) → h[233]? = some (jN 25 z0) → h[234]? = some (jN 16 z0) → jP h0 h 218 → (∀ r, r < i → L r = -1000000) → jV cX7_init RX7 1 X (some (0, 0)) 135 [some (.ref 218), some (.int (nI i))] [] h := by
  intro m
  induction m with
  | zero => intros; omega
  | succ m ih =>
    intro i h L hm hi hl hO A219 A220 A221 A222 A223 A224 A225 A226 A227 A228 A229 A230 A231 A232 A233 A234 EP hL
    refine e_il1 dX7_init_135 ?_
    refine e_bipush (nI 8) dX7_init_136 (by decide) ?_
    refine e_ic_geN 155 dX7_init_138 (by decide) (by omega) (by omega) (fun c_138 => ?_) (fun c_138 => ?_)
    · exact e_ret hX dX7_init_155 (⟨rfl, hl, ⟨⟨fun _ => 0, hO, rfl, rfl, rfl, rfl, rfl⟩, ⟨_, _, _, _, A219, A220, A221, A222, fun r hr => hL r (by omega), fun _ _ => rfl, fun _ _ _ hi => absurd hi (Nat.not_lt_zero _)⟩, ⟨_, A223, fun _ hi => absurd hi (Nat.not_lt_zero _)⟩, A224, ⟨_, A227, fun _ hj => absurd hj (Nat.not_lt_zero _)⟩, ⟨_, _, A228, A229, fun _ _ => rfl, fun _ _ _ _ => rfl⟩, ⟨⟨_, A225⟩, ⟨_, A226⟩, ⟨_, A230⟩, ⟨_, A231⟩, ⟨_, A232⟩, _, A233⟩, _, A234, fun _ hi => absurd hi (Nat.not_lt_zero _)⟩, EP⟩) (fun _ => rfl)
    · refine e_al0 dX7_init_141 ?_
      refine e_get dX7_init_142 fX7_7 hO rfl ?_
      refine e_il1 dX7_init_145 ?_
      refine e_ldc dX7_init_146 kX7_59 ?_
      refine e_iastI dX7_init_148 A219 (by omega) (by decide) ?_
      refine e_abs (fun h1 hh => ?_)
      replace hO := jhs hh hO (by omega)
      replace A219 := jhs_at hh A219
      replace A220 := jhs hh A220 (by omega)
      replace A221 := jhs hh A221 (by omega)
      replace A222 := jhs hh A222 (by omega)
      replace A223 := jhs hh A223 (by omega)
      replace A224 := jhs hh A224 (by omega)
      replace A225 := jhs hh A225 (by omega)
      replace A226 := jhs hh A226 (by omega)
      replace A227 := jhs hh A227 (by omega)
      replace A228 := jhs hh A228 (by omega)
      replace A229 := jhs hh A229 (by omega)
      replace A230 := jhs hh A230 (by omega)
      replace A231 := jhs hh A231 (by omega)
      replace A232 := jhs hh A232 (by omega)
      replace A233 := jhs hh A233 (by omega)
      replace A234 := jhs hh A234 (by omega)
      replace EP := EP.st hh (by omega)
      replace hl := jset_len hh hl
      clear hh
      refine e_inc1N dX7_init_149 rfl ?_
      refine e_goto 135 dX7_init_152 (by decide) ?_
      exact ih (i + 1) _ _ (by omega) (by omega) hl hO A219 A220 A221 A222 A223 A224 A225 A226 A227 A228 A229 A230 A231 A232 A233 A234 EP (fun r hr => by
        unfold upd
        by_cases e : r = i
        · rw [if_pos e]
        · rw [if_neg e]; exact hL r (by omega))
set_option maxRecDepth 100000 in
set_option maxHeartbeats 4000000 in
theorem m_X7_init {h : jH} (hl : h.length = 219) (hO : h[218]? = some (jO 7 [.null, .null, .null, .null, .int 0, .null, .int 0, .int 0, .int 0, .int 0, .int 0, .int 0, .int 0, .null, .null, .null, .null, .int 0, .null, .null, .null, .null, .null, .null, .null, .int 0])) : jM yX7_init cX7_init 2 (none : Option Jvm.ClassFile.FieldType) 1 (some (16, 1749)) [.ref 218] h (fun v h' => v = none ∧ h'.length = 235 ∧ RI h' S0 ∧ jP h h' 218) := by
  refine jM.ofF (by decide +kernel) rfl (Nat.le_of_ble_eq_true rfl) (fun X hX hI0 => ?_)
  have hI := hI0 rfl
  have EP : jP h h 218 := jP.rf
  show jV cX7_init RX7 1 X (some (16, 1749)) 0 [some (.ref 218), none] [] h
  refine e_al0 dX7_init_0 ?_
  refine e_obj dX7_init_1 oX7_1 w_obj (by decide) (Nat.le_of_ble_eq_true rfl) ?_
  refine e_al0 dX7_init_4 ?_
  refine e_bipush (nI 8) dX7_init_5 (by decide) ?_
  refine e_newa (N := 8) (K := 15) (M := 1741) dX7_init_7 arr_int (nI_pos (by omega)) (nI_clamp (by omega)) (by omega) (by omega) ?_
  rw [hl]
  refine e_abs (fun h1 hh => ?_)
  replace hO := jap hh hO
  have A219 := jap_new hh hl
  replace EP := EP.ap hh hl (by omega)
  replace hl : h1.length = 220 := by have := jap_len hh hl; omega
  clear hh
  refine e_putF dX7_init_9 fX7_7 hI (by intro C T N hC; cases hC; rfl) hO (Nat.le_of_ble_eq_true rfl) (fun g => ⟨rfl, rfl⟩) ?_
  refine e_abs (fun h1 hh => ?_)
  replace hO := jhs_at hh hO
  replace A219 := jhs hh A219 (by omega)
  replace EP := EP.st hh (by omega)
  replace hl := jset_len hh hl
  clear hh
  refine e_al0 dX7_init_12 ?_
  refine e_bipush (nI 8) dX7_init_13 (by decide) ?_
  refine e_newa (N := 8) (K := 14) (M := 1733) dX7_init_15 arr_int (nI_pos (by omega)) (nI_clamp (by omega)) (by omega) (by omega) ?_
  rw [hl]
  refine e_abs (fun h1 hh => ?_)
  replace hO := jap hh hO
  replace A219 := jap hh A219
  have A220 := jap_new hh hl
  replace EP := EP.ap hh hl (by omega)
  replace hl : h1.length = 221 := by have := jap_len hh hl; omega
  clear hh
  refine e_putF dX7_init_17 fX7_13 hI (by intro C T N hC; cases hC; rfl) hO (Nat.le_of_ble_eq_true rfl) (fun g => ⟨rfl, rfl⟩) ?_
  refine e_abs (fun h1 hh => ?_)
  replace hO := jhs_at hh hO
  replace A219 := jhs hh A219 (by omega)
  replace A220 := jhs hh A220 (by omega)
  replace EP := EP.st hh (by omega)
  replace hl := jset_len hh hl
  clear hh
  refine e_al0 dX7_init_20 ?_
  refine e_sipush (nI 320) dX7_init_21 (by decide) ?_
  refine e_newa (N := 320) (K := 13) (M := 1413) dX7_init_24 arr_int (nI_pos (by omega)) (nI_clamp (by omega)) (by omega) (by omega) ?_
  rw [hl]
  refine e_abs (fun h1 hh => ?_)
  replace hO := jap hh hO
  replace A219 := jap hh A219
  replace A220 := jap hh A220
  have A221 := jap_new hh hl
  replace EP := EP.ap hh hl (by omega)
  replace hl : h1.length = 222 := by have := jap_len hh hl; omega
  clear hh
  refine e_putF dX7_init_26 fX7_16 hI (by intro C T N hC; cases hC; rfl) hO (Nat.le_of_ble_eq_true rfl) (fun g => ⟨rfl, rfl⟩) ?_
  refine e_abs (fun h1 hh => ?_)
  replace hO := jhs_at hh hO
  replace A219 := jhs hh A219 (by omega)
  replace A220 := jhs hh A220 (by omega)
  replace A221 := jhs hh A221 (by omega)
  replace EP := EP.st hh (by omega)
  replace hl := jset_len hh hl
  clear hh
  refine e_al0 dX7_init_29 ?_
  refine e_bipush (nI 40) dX7_init_30 (by decide) ?_
  refine e_newa (N := 40) (K := 12) (M := 1373) dX7_init_32 arr_int (nI_pos (by omega)) (nI_clamp (by omega)) (by omega) (by omega) ?_
  rw [hl]
  refine e_abs (fun h1 hh => ?_)
  replace hO := jap hh hO
  replace A219 := jap hh A219
  replace A220 := jap hh A220
  replace A221 := jap hh A221
  have A222 := jap_new hh hl
  replace EP := EP.ap hh hl (by omega)
  replace hl : h1.length = 223 := by have := jap_len hh hl; omega
  clear hh
  refine e_putF dX7_init_34 fX7_19 hI (by intro C T N hC; cases hC; rfl) hO (Nat.le_of_ble_eq_true rfl) (fun g => ⟨rfl, rfl⟩) ?_
  refine e_abs (fun h1 hh => ?_)
  replace hO := jhs_at hh hO
  replace A219 := jhs hh A219 (by omega)
  replace A220 := jhs hh A220 (by omega)
  replace A221 := jhs hh A221 (by omega)
  replace A222 := jhs hh A222 (by omega)
  replace EP := EP.st hh (by omega)
  replace hl := jset_len hh hl
  clear hh
  refine e_al0 dX7_init_37 ?_
  refine e_bipush (nI 100) dX7_init_38 (by decide) ?_
  refine e_newa (N := 100) (K := 11) (M := 1273) dX7_init_40 arr_int (nI_pos (by omega)) (nI_clamp (by omega)) (by omega) (by omega) ?_
  rw [hl]
  refine e_abs (fun h1 hh => ?_)
  replace hO := jap hh hO
  replace A219 := jap hh A219
  replace A220 := jap hh A220
  replace A221 := jap hh A221
  replace A222 := jap hh A222
  have A223 := jap_new hh hl
  replace EP := EP.ap hh hl (by omega)
  replace hl : h1.length = 224 := by have := jap_len hh hl; omega
  clear hh
  refine e_putF dX7_init_42 fX7_22 hI (by intro C T N hC; cases hC; rfl) hO (Nat.le_of_ble_eq_true rfl) (fun g => ⟨rfl, rfl⟩) ?_
  refine e_abs (fun h1 hh => ?_)
  replace hO := jhs_at hh hO
  replace A219 := jhs hh A219 (by omega)
  replace A220 := jhs hh A220 (by omega)
  replace A221 := jhs hh A221 (by omega)
  replace A222 := jhs hh A222 (by omega)
  replace A223 := jhs hh A223 (by omega)
  replace EP := EP.st hh (by omega)
  replace hl := jset_len hh hl
  clear hh
  refine e_al0 dX7_init_45 ?_
  refine e_bipush (nI 41) dX7_init_46 (by decide) ?_
  refine e_newa (N := 41) (K := 10) (M := 1232) dX7_init_48 arr_int (nI_pos (by omega)) (nI_clamp (by omega)) (by omega) (by omega) ?_
  rw [hl]
  refine e_abs (fun h1 hh => ?_)
  replace hO := jap hh hO
  replace A219 := jap hh A219
  replace A220 := jap hh A220
  replace A221 := jap hh A221
  replace A222 := jap hh A222
  replace A223 := jap hh A223
  have A224 := jap_new hh hl
  replace EP := EP.ap hh hl (by omega)
  replace hl : h1.length = 225 := by have := jap_len hh hl; omega
  clear hh
  refine e_putF dX7_init_50 fX7_25 hI (by intro C T N hC; cases hC; rfl) hO (Nat.le_of_ble_eq_true rfl) (fun g => ⟨rfl, rfl⟩) ?_
  refine e_abs (fun h1 hh => ?_)
  replace hO := jhs_at hh hO
  replace A219 := jhs hh A219 (by omega)
  replace A220 := jhs hh A220 (by omega)
  replace A221 := jhs hh A221 (by omega)
  replace A222 := jhs hh A222 (by omega)
  replace A223 := jhs hh A223 (by omega)
  replace A224 := jhs hh A224 (by omega)
  replace EP := EP.st hh (by omega)
  replace hl := jset_len hh hl
  clear hh
  refine e_al0 dX7_init_53 ?_
  refine e_bipush (nI 41) dX7_init_54 (by decide) ?_
  refine e_newa (N := 41) (K := 9) (M := 1191) dX7_init_56 arr_int (nI_pos (by omega)) (nI_clamp (by omega)) (by omega) (by omega) ?_
  rw [hl]
  refine e_abs (fun h1 hh => ?_)
  replace hO := jap hh hO
  replace A219 := jap hh A219
  replace A220 := jap hh A220
  replace A221 := jap hh A221
  replace A222 := jap hh A222
  replace A223 := jap hh A223
  replace A224 := jap hh A224
  have A225 := jap_new hh hl
  replace EP := EP.ap hh hl (by omega)
  replace hl : h1.length = 226 := by have := jap_len hh hl; omega
  clear hh
  refine e_putF dX7_init_58 fX7_28 hI (by intro C T N hC; cases hC; rfl) hO (Nat.le_of_ble_eq_true rfl) (fun g => ⟨rfl, rfl⟩) ?_
  refine e_abs (fun h1 hh => ?_)
  replace hO := jhs_at hh hO
  replace A219 := jhs hh A219 (by omega)
  replace A220 := jhs hh A220 (by omega)
  replace A221 := jhs hh A221 (by omega)
  replace A222 := jhs hh A222 (by omega)
  replace A223 := jhs hh A223 (by omega)
  replace A224 := jhs hh A224 (by omega)
  replace A225 := jhs hh A225 (by omega)
  replace EP := EP.st hh (by omega)
  replace hl := jset_len hh hl
  clear hh
  refine e_al0 dX7_init_61 ?_
  refine e_bipush (nI 41) dX7_init_62 (by decide) ?_
  refine e_newa (N := 41) (K := 8) (M := 1150) dX7_init_64 arr_int (nI_pos (by omega)) (nI_clamp (by omega)) (by omega) (by omega) ?_
  rw [hl]
  refine e_abs (fun h1 hh => ?_)
  replace hO := jap hh hO
  replace A219 := jap hh A219
  replace A220 := jap hh A220
  replace A221 := jap hh A221
  replace A222 := jap hh A222
  replace A223 := jap hh A223
  replace A224 := jap hh A224
  replace A225 := jap hh A225
  have A226 := jap_new hh hl
  replace EP := EP.ap hh hl (by omega)
  replace hl : h1.length = 227 := by have := jap_len hh hl; omega
  clear hh
  refine e_putF dX7_init_66 fX7_31 hI (by intro C T N hC; cases hC; rfl) hO (Nat.le_of_ble_eq_true rfl) (fun g => ⟨rfl, rfl⟩) ?_
  refine e_abs (fun h1 hh => ?_)
  replace hO := jhs_at hh hO
  replace A219 := jhs hh A219 (by omega)
  replace A220 := jhs hh A220 (by omega)
  replace A221 := jhs hh A221 (by omega)
  replace A222 := jhs hh A222 (by omega)
  replace A223 := jhs hh A223 (by omega)
  replace A224 := jhs hh A224 (by omega)
  replace A225 := jhs hh A225 (by omega)
  replace A226 := jhs hh A226 (by omega)
  replace EP := EP.st hh (by omega)
  replace hl := jset_len hh hl
  clear hh
  refine e_al0 dX7_init_69 ?_
  refine e_sipush (nI 984) dX7_init_70 (by decide) ?_
  refine e_newa (N := 984) (K := 7) (M := 166) dX7_init_73 arr_int (nI_pos (by omega)) (nI_clamp (by omega)) (by omega) (by omega) ?_
  rw [hl]
  refine e_abs (fun h1 hh => ?_)
  replace hO := jap hh hO
  replace A219 := jap hh A219
  replace A220 := jap hh A220
  replace A221 := jap hh A221
  replace A222 := jap hh A222
  replace A223 := jap hh A223
  replace A224 := jap hh A224
  replace A225 := jap hh A225
  replace A226 := jap hh A226
  have A227 := jap_new hh hl
  replace EP := EP.ap hh hl (by omega)
  replace hl : h1.length = 228 := by have := jap_len hh hl; omega
  clear hh
  refine e_putF dX7_init_75 fX7_34 hI (by intro C T N hC; cases hC; rfl) hO (Nat.le_of_ble_eq_true rfl) (fun g => ⟨rfl, rfl⟩) ?_
  refine e_abs (fun h1 hh => ?_)
  replace hO := jhs_at hh hO
  replace A219 := jhs hh A219 (by omega)
  replace A220 := jhs hh A220 (by omega)
  replace A221 := jhs hh A221 (by omega)
  replace A222 := jhs hh A222 (by omega)
  replace A223 := jhs hh A223 (by omega)
  replace A224 := jhs hh A224 (by omega)
  replace A225 := jhs hh A225 (by omega)
  replace A226 := jhs hh A226 (by omega)
  replace A227 := jhs hh A227 (by omega)
  replace EP := EP.st hh (by omega)
  replace hl := jset_len hh hl
  clear hh
  refine e_al0 dX7_init_78 ?_
  refine e_bipush (nI 82) dX7_init_79 (by decide) ?_
  refine e_newa (N := 82) (K := 6) (M := 84) dX7_init_81 arr_int (nI_pos (by omega)) (nI_clamp (by omega)) (by omega) (by omega) ?_
  rw [hl]
  refine e_abs (fun h1 hh => ?_)
  replace hO := jap hh hO
  replace A219 := jap hh A219
  replace A220 := jap hh A220
  replace A221 := jap hh A221
  replace A222 := jap hh A222
  replace A223 := jap hh A223
  replace A224 := jap hh A224
  replace A225 := jap hh A225
  replace A226 := jap hh A226
  replace A227 := jap hh A227
  have A228 := jap_new hh hl
  replace EP := EP.ap hh hl (by omega)
  replace hl : h1.length = 229 := by have := jap_len hh hl; omega
  clear hh
  refine e_putF dX7_init_83 fX7_37 hI (by intro C T N hC; cases hC; rfl) hO (Nat.le_of_ble_eq_true rfl) (fun g => ⟨rfl, rfl⟩) ?_
  refine e_abs (fun h1 hh => ?_)
  replace hO := jhs_at hh hO
  replace A219 := jhs hh A219 (by omega)
  replace A220 := jhs hh A220 (by omega)
  replace A221 := jhs hh A221 (by omega)
  replace A222 := jhs hh A222 (by omega)
  replace A223 := jhs hh A223 (by omega)
  replace A224 := jhs hh A224 (by omega)
  replace A225 := jhs hh A225 (by omega)
  replace A226 := jhs hh A226 (by omega)
  replace A227 := jhs hh A227 (by omega)
  replace A228 := jhs hh A228 (by omega)
  replace EP := EP.st hh (by omega)
  replace hl := jset_len hh hl
  clear hh
  refine e_al0 dX7_init_86 ?_
  refine e_iconst (nI 2) dX7_init_87 (by decide) ?_
  refine e_newz (N := 2) (K := 5) (M := 82) dX7_init_88 arr_boolean (nI_pos (by omega)) (nI_clamp (by omega)) (by omega) (by omega) ?_
  rw [hl]
  refine e_abs (fun h1 hh => ?_)
  replace hO := jap hh hO
  replace A219 := jap hh A219
  replace A220 := jap hh A220
  replace A221 := jap hh A221
  replace A222 := jap hh A222
  replace A223 := jap hh A223
  replace A224 := jap hh A224
  replace A225 := jap hh A225
  replace A226 := jap hh A226
  replace A227 := jap hh A227
  replace A228 := jap hh A228
  have A229 := jap_new hh hl
  replace EP := EP.ap hh hl (by omega)
  replace hl : h1.length = 230 := by have := jap_len hh hl; omega
  clear hh
  refine e_putF dX7_init_90 fX7_40 hI (by intro C T N hC; cases hC; rfl) hO (Nat.le_of_ble_eq_true rfl) (fun g => ⟨rfl, rfl⟩) ?_
  refine e_abs (fun h1 hh => ?_)
  replace hO := jhs_at hh hO
  replace A219 := jhs hh A219 (by omega)
  replace A220 := jhs hh A220 (by omega)
  replace A221 := jhs hh A221 (by omega)
  replace A222 := jhs hh A222 (by omega)
  replace A223 := jhs hh A223 (by omega)
  replace A224 := jhs hh A224 (by omega)
  replace A225 := jhs hh A225 (by omega)
  replace A226 := jhs hh A226 (by omega)
  replace A227 := jhs hh A227 (by omega)
  replace A228 := jhs hh A228 (by omega)
  replace A229 := jhs hh A229 (by omega)
  replace EP := EP.st hh (by omega)
  replace hl := jset_len hh hl
  clear hh
  refine e_al0 dX7_init_93 ?_
  refine e_bipush (nI 8) dX7_init_94 (by decide) ?_
  refine e_newa (N := 8) (K := 4) (M := 74) dX7_init_96 arr_int (nI_pos (by omega)) (nI_clamp (by omega)) (by omega) (by omega) ?_
  rw [hl]
  refine e_abs (fun h1 hh => ?_)
  replace hO := jap hh hO
  replace A219 := jap hh A219
  replace A220 := jap hh A220
  replace A221 := jap hh A221
  replace A222 := jap hh A222
  replace A223 := jap hh A223
  replace A224 := jap hh A224
  replace A225 := jap hh A225
  replace A226 := jap hh A226
  replace A227 := jap hh A227
  replace A228 := jap hh A228
  replace A229 := jap hh A229
  have A230 := jap_new hh hl
  replace EP := EP.ap hh hl (by omega)
  replace hl : h1.length = 231 := by have := jap_len hh hl; omega
  clear hh
  refine e_putF dX7_init_98 fX7_44 hI (by intro C T N hC; cases hC; rfl) hO (Nat.le_of_ble_eq_true rfl) (fun g => ⟨rfl, rfl⟩) ?_
  refine e_abs (fun h1 hh => ?_)
  replace hO := jhs_at hh hO
  replace A219 := jhs hh A219 (by omega)
  replace A220 := jhs hh A220 (by omega)
  replace A221 := jhs hh A221 (by omega)
  replace A222 := jhs hh A222 (by omega)
  replace A223 := jhs hh A223 (by omega)
  replace A224 := jhs hh A224 (by omega)
  replace A225 := jhs hh A225 (by omega)
  replace A226 := jhs hh A226 (by omega)
  replace A227 := jhs hh A227 (by omega)
  replace A228 := jhs hh A228 (by omega)
  replace A229 := jhs hh A229 (by omega)
  replace A230 := jhs hh A230 (by omega)
  replace EP := EP.st hh (by omega)
  replace hl := jset_len hh hl
  clear hh
  refine e_al0 dX7_init_101 ?_
  refine e_bipush (nI 8) dX7_init_102 (by decide) ?_
  refine e_newa (N := 8) (K := 3) (M := 66) dX7_init_104 arr_int (nI_pos (by omega)) (nI_clamp (by omega)) (by omega) (by omega) ?_
  rw [hl]
  refine e_abs (fun h1 hh => ?_)
  replace hO := jap hh hO
  replace A219 := jap hh A219
  replace A220 := jap hh A220
  replace A221 := jap hh A221
  replace A222 := jap hh A222
  replace A223 := jap hh A223
  replace A224 := jap hh A224
  replace A225 := jap hh A225
  replace A226 := jap hh A226
  replace A227 := jap hh A227
  replace A228 := jap hh A228
  replace A229 := jap hh A229
  replace A230 := jap hh A230
  have A231 := jap_new hh hl
  replace EP := EP.ap hh hl (by omega)
  replace hl : h1.length = 232 := by have := jap_len hh hl; omega
  clear hh
  refine e_putF dX7_init_106 fX7_47 hI (by intro C T N hC; cases hC; rfl) hO (Nat.le_of_ble_eq_true rfl) (fun g => ⟨rfl, rfl⟩) ?_
  refine e_abs (fun h1 hh => ?_)
  replace hO := jhs_at hh hO
  replace A219 := jhs hh A219 (by omega)
  replace A220 := jhs hh A220 (by omega)
  replace A221 := jhs hh A221 (by omega)
  replace A222 := jhs hh A222 (by omega)
  replace A223 := jhs hh A223 (by omega)
  replace A224 := jhs hh A224 (by omega)
  replace A225 := jhs hh A225 (by omega)
  replace A226 := jhs hh A226 (by omega)
  replace A227 := jhs hh A227 (by omega)
  replace A228 := jhs hh A228 (by omega)
  replace A229 := jhs hh A229 (by omega)
  replace A230 := jhs hh A230 (by omega)
  replace A231 := jhs hh A231 (by omega)
  replace EP := EP.st hh (by omega)
  replace hl := jset_len hh hl
  clear hh
  refine e_al0 dX7_init_109 ?_
  refine e_bipush (nI 25) dX7_init_110 (by decide) ?_
  refine e_newa (N := 25) (K := 2) (M := 41) dX7_init_112 arr_int (nI_pos (by omega)) (nI_clamp (by omega)) (by omega) (by omega) ?_
  rw [hl]
  refine e_abs (fun h1 hh => ?_)
  replace hO := jap hh hO
  replace A219 := jap hh A219
  replace A220 := jap hh A220
  replace A221 := jap hh A221
  replace A222 := jap hh A222
  replace A223 := jap hh A223
  replace A224 := jap hh A224
  replace A225 := jap hh A225
  replace A226 := jap hh A226
  replace A227 := jap hh A227
  replace A228 := jap hh A228
  replace A229 := jap hh A229
  replace A230 := jap hh A230
  replace A231 := jap hh A231
  have A232 := jap_new hh hl
  replace EP := EP.ap hh hl (by omega)
  replace hl : h1.length = 233 := by have := jap_len hh hl; omega
  clear hh
  refine e_putF dX7_init_114 fX7_50 hI (by intro C T N hC; cases hC; rfl) hO (Nat.le_of_ble_eq_true rfl) (fun g => ⟨rfl, rfl⟩) ?_
  refine e_abs (fun h1 hh => ?_)
  replace hO := jhs_at hh hO
  replace A219 := jhs hh A219 (by omega)
  replace A220 := jhs hh A220 (by omega)
  replace A221 := jhs hh A221 (by omega)
  replace A222 := jhs hh A222 (by omega)
  replace A223 := jhs hh A223 (by omega)
  replace A224 := jhs hh A224 (by omega)
  replace A225 := jhs hh A225 (by omega)
  replace A226 := jhs hh A226 (by omega)
  replace A227 := jhs hh A227 (by omega)
  replace A228 := jhs hh A228 (by omega)
  replace A229 := jhs hh A229 (by omega)
  replace A230 := jhs hh A230 (by omega)
  replace A231 := jhs hh A231 (by omega)
  replace A232 := jhs hh A232 (by omega)
  replace EP := EP.st hh (by omega)
  replace hl := jset_len hh hl
  clear hh
  refine e_al0 dX7_init_117 ?_
  refine e_bipush (nI 25) dX7_init_118 (by decide) ?_
  refine e_newa (N := 25) (K := 1) (M := 16) dX7_init_120 arr_int (nI_pos (by omega)) (nI_clamp (by omega)) (by omega) (by omega) ?_
  rw [hl]
  refine e_abs (fun h1 hh => ?_)
  replace hO := jap hh hO
  replace A219 := jap hh A219
  replace A220 := jap hh A220
  replace A221 := jap hh A221
  replace A222 := jap hh A222
  replace A223 := jap hh A223
  replace A224 := jap hh A224
  replace A225 := jap hh A225
  replace A226 := jap hh A226
  replace A227 := jap hh A227
  replace A228 := jap hh A228
  replace A229 := jap hh A229
  replace A230 := jap hh A230
  replace A231 := jap hh A231
  replace A232 := jap hh A232
  have A233 := jap_new hh hl
  replace EP := EP.ap hh hl (by omega)
  replace hl : h1.length = 234 := by have := jap_len hh hl; omega
  clear hh
  refine e_putF dX7_init_122 fX7_53 hI (by intro C T N hC; cases hC; rfl) hO (Nat.le_of_ble_eq_true rfl) (fun g => ⟨rfl, rfl⟩) ?_
  refine e_abs (fun h1 hh => ?_)
  replace hO := jhs_at hh hO
  replace A219 := jhs hh A219 (by omega)
  replace A220 := jhs hh A220 (by omega)
  replace A221 := jhs hh A221 (by omega)
  replace A222 := jhs hh A222 (by omega)
  replace A223 := jhs hh A223 (by omega)
  replace A224 := jhs hh A224 (by omega)
  replace A225 := jhs hh A225 (by omega)
  replace A226 := jhs hh A226 (by omega)
  replace A227 := jhs hh A227 (by omega)
  replace A228 := jhs hh A228 (by omega)
  replace A229 := jhs hh A229 (by omega)
  replace A230 := jhs hh A230 (by omega)
  replace A231 := jhs hh A231 (by omega)
  replace A232 := jhs hh A232 (by omega)
  replace A233 := jhs hh A233 (by omega)
  replace EP := EP.st hh (by omega)
  replace hl := jset_len hh hl
  clear hh
  refine e_al0 dX7_init_125 ?_
  refine e_bipush (nI 16) dX7_init_126 (by decide) ?_
  refine e_newa (N := 16) (K := 0) (M := 0) dX7_init_128 arr_int (nI_pos (by omega)) (nI_clamp (by omega)) (by omega) (by omega) ?_
  rw [hl]
  refine e_abs (fun h1 hh => ?_)
  replace hO := jap hh hO
  replace A219 := jap hh A219
  replace A220 := jap hh A220
  replace A221 := jap hh A221
  replace A222 := jap hh A222
  replace A223 := jap hh A223
  replace A224 := jap hh A224
  replace A225 := jap hh A225
  replace A226 := jap hh A226
  replace A227 := jap hh A227
  replace A228 := jap hh A228
  replace A229 := jap hh A229
  replace A230 := jap hh A230
  replace A231 := jap hh A231
  replace A232 := jap hh A232
  replace A233 := jap hh A233
  have A234 := jap_new hh hl
  replace EP := EP.ap hh hl (by omega)
  replace hl : h1.length = 235 := by have := jap_len hh hl; omega
  clear hh
  refine e_putF dX7_init_130 fX7_56 hI (by intro C T N hC; cases hC; rfl) hO (Nat.le_of_ble_eq_true rfl) (fun g => ⟨rfl, rfl⟩) ?_
  refine e_abs (fun h1 hh => ?_)
  replace hO := jhs_at hh hO
  replace A219 := jhs hh A219 (by omega)
  replace A220 := jhs hh A220 (by omega)
  replace A221 := jhs hh A221 (by omega)
  replace A222 := jhs hh A222 (by omega)
  replace A223 := jhs hh A223 (by omega)
  replace A224 := jhs hh A224 (by omega)
  replace A225 := jhs hh A225 (by omega)
  replace A226 := jhs hh A226 (by omega)
  replace A227 := jhs hh A227 (by omega)
  replace A228 := jhs hh A228 (by omega)
  replace A229 := jhs hh A229 (by omega)
  replace A230 := jhs hh A230 (by omega)
  replace A231 := jhs hh A231 (by omega)
  replace A232 := jhs hh A232 (by omega)
  replace A233 := jhs hh A233 (by omega)
  replace A234 := jhs hh A234 (by omega)
  replace EP := EP.st hh (by omega)
  replace hl := jset_len hh hl
  clear hh
  refine e_iconst (nI 0) dX7_init_133 (by decide) ?_
  refine e_is1 dX7_init_134 rfl ?_
  exact lp_X7_init hX 9 0 _ _ (by omega) (by omega) hl hO A219 A220 A221 A222 A223 A224 A225 A226 A227 A228 A229 A230 A231 A232 A233 A234 EP (fun r hr => absurd hr (Nat.not_lt_zero r))
