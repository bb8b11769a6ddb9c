def s_noteP (an : Nat) (ap : Nat → hw) (w : hw) : Nat → hw := if an = 24 then (fun j => if j = 23 then w else ap (j + 1)) else va_up ap an w
theorem s_noteP_new {an : Nat} {ap : Nat → hw} {w : hw} (h : an ≤ 24) : s_noteP an ap w (min (an + 1) 24 - 1) = w := by
  unfold s_noteP
  by_cases c : an = 24
  · rw [if_pos c]; subst c; rfl
  · rw [if_neg c, Nat.min_eq_left (by omega), Nat.add_sub_cancel]
    unfold va_up
    rw [if_pos rfl]
theorem s_noteP_old {an : Nat} {ap : Nat → hw} {w : hw} {j : Nat} (h : an ≤ 24) (hj : j < min (an + 1) 24 - 1) : s_noteP an ap w j = ap (if an = 24 then j + 1 else j) := by
  unfold s_noteP
  by_cases c : an = 24
  · rw [if_pos c, if_pos c]
    rw [if_neg (by omega)]
  · rw [if_neg c, if_neg c]
    unfold va_up
    rw [if_neg (by omega)]
set_option maxRecDepth 100000 in
set_option maxHeartbeats 4000000 in
theorem m_X0_keep {h : jH} {an : Nat} {ap : Nat → hw} {w : hw} (hA : cActs h an ap) (hN : HA h 14 w) (h8 : w 2 ≤ 8) (h7 : w 3 ≤ 7) (han : an ≤ 24) : jM yX0_keep cX0_keep 2 (none : Option Jvm.ClassFile.FieldType) 2 none [.ref 21, .ref 14] h (fun v h' => v = none ∧ cActs h' (min (an + 1) 24) (s_noteP an ap w) ∧ HA h' 14 w ∧ jEq h h' (fun j => 21 ≤ j ∧ j < 191)) := by
  obtain ⟨nx, rf, hnx, c1, c2, hrf, c4, c5⟩ := hA
  refine jM.ofF (by decide +kernel) rfl (Nat.le_of_ble_eq_true rfl) (fun X hX hI => ?_)
  show jV cX0_keep RX0 2 X none 0 [some (.ref 21), some (.ref 14)] [] h
  refine e_al0 dX0_keep_0 ?_
  refine e_get dX0_keep_1 fX0_11 c1 rfl ?_
  refine e_al0 dX0_keep_4 ?_
  refine e_get dX0_keep_5 fX0_16 c1 rfl ?_
  refine e_aaldN dX0_keep_8 c2 (by omega) (by decide) (hrf nx hnx) ?_
  refine e_al1 dX0_keep_9 ?_
  refine e_cv dX0_keep_10 vX0_23 (m_become (c4 nx hnx) hN h8 h7 (by omega)) (by decide) rfl rfl (Nat.le_of_ble_eq_true rfl) jBud0 rfl (c4 nx hnx).choose_spec.choose_spec.choose_spec.choose_spec.choose_spec.choose_spec.choose_spec.choose_spec.choose_spec.choose_spec.choose_spec.1 ?_
  rintro _ h1 ⟨rfl, hB, E1⟩
  replace c1 := E1.at (by unfold jIn; omega) c1
  replace c2 := E1.at (by unfold jIn; omega) c2
  have hB' := hB.x
  replace c4 : ∀ i, i < 24 → HX h1 (23 + 7 * i) := fun i hi => by
    by_cases e : i = nx
    · rw [e]; exact hB'
    · exact (c4 i hi).eq E1 (fun j a b => by unfold jIn at a b; omega)
  replace c5 : ∀ j, j < min (an + 1) 24 → HA h1 (23 + 7 * (((nx + 1) % 24 + 24 - min (an + 1) 24 + j) % 24)) (s_noteP an ap w j) := fun j hj => by
    by_cases e : j = min (an + 1) 24 - 1
    · rw [e, s_noteP_new han, show ((nx + 1) % 24 + 24 - min (an + 1) 24 + (min (an + 1) 24 - 1)) % 24 = nx by omega]
      exact hB
    · rw [s_noteP_old han (by omega)]
      by_cases q : an = 24
      · rw [if_pos q, show ((nx + 1) % 24 + 24 - min (an + 1) 24 + j) % 24 = (nx + 24 - an + (j + 1)) % 24 by omega]
        exact (c5 (j + 1) (by omega)).eq E1 (fun i a b => by unfold jIn at a b; omega)
      · rw [if_neg q, show ((nx + 1) % 24 + 24 - min (an + 1) 24 + j) % 24 = (nx + 24 - an + j) % 24 by omega]
        exact (c5 j (by omega)).eq E1 (fun i a b => by unfold jIn at a b; omega)
  replace hN := hN.eq E1 (fun j a b => by unfold jIn at a b; omega)
  have E := E1.mono (Q := fun j => 21 ≤ j ∧ j < 191) (fun j q => by unfold jIn at q; omega)
  refine e_al0 dX0_keep_13 ?_
  refine e_al0 dX0_keep_14 ?_
  refine e_get dX0_keep_15 fX0_16 c1 rfl ?_
  refine e_iconst (nI 1) dX0_keep_18 (by decide) ?_
  refine e_iaddN dX0_keep_19 ?_
  refine e_bipush (nI 24) dX0_keep_20 (by decide) ?_
  refine e_iremN dX0_keep_22 (by omega) (by omega) (by omega) ?_
  refine e_put dX0_keep_23 fX0_16 c1 (Nat.le_of_ble_eq_true rfl) (fun g => ⟨rfl, rfl⟩) ?_
  refine e_abs (fun h2 hh => ?_)
  replace c1 := jhs_at hh c1
  replace c2 := jhs hh c2 (by omega)
  replace c4 : ∀ i, i < 24 → HX h2 (23 + 7 * i) := fun i hi => by rw [hh]; exact (c4 i hi).eq (jEq.set (P := fun j => j = 21) rfl) (fun j a b => by unfold jIn at b; omega)
  replace c5 : ∀ j, j < min (an + 1) 24 → HA h2 (23 + 7 * (((nx + 1) % 24 + 24 - min (an + 1) 24 + j) % 24)) (s_noteP an ap w j) := fun i hi => by rw [hh]; exact (c5 i hi).eq (jEq.set (P := fun j => j = 21) rfl) (fun j a b => by unfold jIn at b; omega)
  replace hN := HA.hs hh hN (by omega)
  replace E := jEq.hs hh E ⟨by omega, by omega⟩
  clear hh
  refine e_al0 dX0_keep_26 ?_
  refine e_al0 dX0_keep_27 ?_
  refine e_get dX0_keep_28 fX0_20 c1 rfl ?_
  refine e_iconst (nI 1) dX0_keep_31 (by decide) ?_
  refine e_iaddN dX0_keep_32 ?_
  refine e_bipush (nI 24) dX0_keep_33 (by decide) ?_
  refine e_cs dX0_keep_35 sX0_27 (m_minN (by omega) (by omega)) (by decide) rfl rfl (Nat.le_of_ble_eq_true rfl) jBud0 ?_
  rintro _ _ ⟨rfl, rfl⟩
  refine e_put dX0_keep_38 fX0_20 c1 (Nat.le_of_ble_eq_true rfl) (fun g => ⟨rfl, rfl⟩) ?_
  refine e_abs (fun h3 hh => ?_)
  replace c1 := jhs_at hh c1
  replace c2 := jhs hh c2 (by omega)
  replace c4 : ∀ i, i < 24 → HX h3 (23 + 7 * i) := fun i hi => by rw [hh]; exact (c4 i hi).eq (jEq.set (P := fun j => j = 21) rfl) (fun j a b => by unfold jIn at b; omega)
  replace c5 : ∀ j, j < min (an + 1) 24 → HA h3 (23 + 7 * (((nx + 1) % 24 + 24 - min (an + 1) 24 + j) % 24)) (s_noteP an ap w j) := fun i hi => by rw [hh]; exact (c5 i hi).eq (jEq.set (P := fun j => j = 21) rfl) (fun j a b => by unfold jIn at b; omega)
  replace hN := HA.hs hh hN (by omega)
  replace E := jEq.hs hh E ⟨by omega, by omega⟩
  clear hh
  exact e_ret hX dX0_keep_41 (⟨rfl, ⟨(nx + 1) % 24, rf, by omega, c1, c2, hrf, c4, c5⟩, hN, E⟩) (fun z => z)
set_option maxRecDepth 100000 in
set_option maxHeartbeats 4000000 in
theorem m_X0_bringBack {h : jH} {an : Nat} {ap : Nat → hw} {w : hw} (hA : cActs h an ap) (hN : HA h 14 w) (h8 : ap (an - 1) 2 ≤ 8) (h7 : ap (an - 1) 3 ≤ 7) (han : an ≤ 24) (h0 : 0 < an) : jM yX0_bringBack cX0_bringBack 2 (none : Option Jvm.ClassFile.FieldType) 2 none [.ref 21, .ref 14] h (fun v h' => v = none ∧ cActs h' (an - 1) ap ∧ HA h' 14 (ap (an - 1)) ∧ jEq h h' (fun j => 14 ≤ j ∧ j < 191)) := by
  obtain ⟨nx, rf, hnx, c1, c2, hrf, c4, c5⟩ := hA
  refine jM.ofF (by decide +kernel) rfl (Nat.le_of_ble_eq_true rfl) (fun X hX hI => ?_)
  show jV cX0_bringBack RX0 2 X none 0 [some (.ref 21), some (.ref 14)] [] h
  refine e_al0 dX0_bringBack_0 ?_
  refine e_al0 dX0_bringBack_1 ?_
  refine e_get dX0_bringBack_2 fX0_16 c1 rfl ?_
  refine e_bipush (nI 24) dX0_bringBack_5 (by decide) ?_
  refine e_iaddN dX0_bringBack_7 ?_
  refine e_iconst (nI 1) dX0_bringBack_8 (by decide) ?_
  refine e_isubN dX0_bringBack_9 (by omega) ?_
  refine e_bipush (nI 24) dX0_bringBack_10 (by decide) ?_
  refine e_iremN dX0_bringBack_12 (by omega) (by omega) (by omega) ?_
  refine e_put dX0_bringBack_13 fX0_16 c1 (Nat.le_of_ble_eq_true rfl) (fun g => ⟨rfl, rfl⟩) ?_
  refine e_abs (fun h1 hh => ?_)
  replace c1 := jhs_at hh c1
  replace c2 := jhs hh c2 (by omega)
  replace c4 : ∀ i, i < 24 → HX h1 (23 + 7 * i) := fun i hi => by rw [hh]; exact (c4 i hi).eq (jEq.set (P := fun j => j = 21) rfl) (fun j a b => by unfold jIn at b; omega)
  replace c5 : ∀ j, j < an → HA h1 (23 + 7 * ((nx + 24 - an + j) % 24)) (ap j) := fun i hi => by rw [hh]; exact (c5 i hi).eq (jEq.set (P := fun j => j = 21) rfl) (fun j a b => by unfold jIn at b; omega)
  replace hN := HA.hs hh hN (by omega)
  have E := jEq.hs hh (jEq.rf (h := h) (P := fun j => 14 ≤ j ∧ j < 191)) ⟨by omega, by omega⟩
  have hp : (nx + 24 - 1) % 24 = (nx + 24 - an + (an - 1)) % 24 := by omega
  clear hh
  refine e_al1 dX0_bringBack_16 ?_
  refine e_al0 dX0_bringBack_17 ?_
  refine e_get dX0_bringBack_18 fX0_11 c1 rfl ?_
  refine e_al0 dX0_bringBack_21 ?_
  refine e_get dX0_bringBack_22 fX0_16 c1 rfl ?_
  refine e_aaldN dX0_bringBack_25 c2 (by omega) (by decide) (hrf _ (by omega)) ?_
  refine e_cv dX0_bringBack_26 vX0_23 (m_become hN.x (by rw [hp]; exact c5 (an - 1) (by omega)) h8 h7 (by omega)) (by decide) rfl rfl (Nat.le_of_ble_eq_true rfl) jBud0 rfl hN.choose_spec.choose_spec.choose_spec.choose_spec.choose_spec.choose_spec.1.1 ?_
  rintro _ h2 ⟨rfl, hB, E1⟩
  replace c1 := E1.at (by unfold jIn; omega) c1
  replace c2 := E1.at (by unfold jIn; omega) c2
  replace c4 : ∀ i, i < 24 → HX h2 (23 + 7 * i) := fun i hi => (c4 i hi).eq E1 (fun j a b => by unfold jIn at a b; omega)
  replace c5 : ∀ j, j < an → HA h2 (23 + 7 * ((nx + 24 - an + j) % 24)) (ap j) := fun i hi => (c5 i hi).eq E1 (fun j a b => by unfold jIn at a b; omega)
  replace hN := hB
  replace E := E.tr E1 (R := fun j => 14 ≤ j ∧ j < 191) (fun j q => q) (fun j q => by unfold jIn at q; omega)
  refine e_al0 dX0_bringBack_29 ?_
  refine e_dup dX0_bringBack_30 rfl ?_
  refine e_get dX0_bringBack_31 fX0_20 c1 rfl ?_
  refine e_iconst (nI 1) dX0_bringBack_34 (by decide) ?_
  refine e_isubN dX0_bringBack_35 (by omega) ?_
  refine e_put dX0_bringBack_36 fX0_20 c1 (Nat.le_of_ble_eq_true rfl) (fun g => ⟨rfl, rfl⟩) ?_
  refine e_abs (fun h3 hh => ?_)
  replace c1 := jhs_at hh c1
  replace c2 := jhs hh c2 (by omega)
  replace c4 : ∀ i, i < 24 → HX h3 (23 + 7 * i) := fun i hi => by rw [hh]; exact (c4 i hi).eq (jEq.set (P := fun j => j = 21) rfl) (fun j a b => by unfold jIn at b; omega)
  replace c5 : ∀ j, j < an → HA h3 (23 + 7 * ((nx + 24 - an + j) % 24)) (ap j) := fun i hi => by rw [hh]; exact (c5 i hi).eq (jEq.set (P := fun j => j = 21) rfl) (fun j a b => by unfold jIn at b; omega)
  replace hN := HA.hs hh hN (by omega)
  replace E := jEq.hs hh E ⟨by omega, by omega⟩
  clear hh
  exact e_ret hX dX0_bringBack_39 (⟨rfl, ⟨(nx + 24 - 1) % 24, rf, by omega, c1, c2, hrf, c4, fun j hj => by rw [show ((nx + 24 - 1) % 24 + 24 - (an - 1) + j) % 24 = (nx + 24 - an + j) % 24 by omega]; exact c5 j (by omega)⟩, hN, E⟩) (fun z => z)
set_option maxRecDepth 100000 in
set_option maxHeartbeats 4000000 in
theorem m_X0_forgetAll {h : jH} {an : Nat} {ap ap2 : Nat → hw} (hA : cActs h an ap) : jM yX0_forgetAll cX0_forgetAll 1 (none : Option Jvm.ClassFile.FieldType) 0 none [.ref 21] h (fun v h' => v = none ∧ cActs h' 0 ap2 ∧ jEq h h' (fun j => j = 21)) := by
  obtain ⟨nx, rf, hnx, c1, c2, hrf, c4, c5⟩ := hA
  refine jM.ofF (by decide +kernel) rfl (Nat.le_of_ble_eq_true rfl) (fun X hX hI => ?_)
  show jV cX0_forgetAll RX0 0 X none 0 [some (.ref 21)] [] h
  refine e_al0 dX0_forgetAll_0 ?_
  refine e_iconst (nI 0) dX0_forgetAll_1 (by decide) ?_
  refine e_put dX0_forgetAll_2 fX0_20 c1 (Nat.le_of_ble_eq_true rfl) (fun g => ⟨rfl, rfl⟩) ?_
  refine e_abs (fun h1 hh => ?_)
  replace c1 := jhs_at hh c1
  replace c2 := jhs hh c2 (by omega)
  have E := jEq.hs hh (jEq.rf (h := h) (P := fun j => j = 21)) rfl
  replace c4 : ∀ i, i < 24 → HX h1 (23 + 7 * i) := fun i hi => (c4 i hi).eq E (fun j a b => by unfold jIn at b; omega)
  exact e_ret hX dX0_forgetAll_5 (⟨rfl, ⟨nx, rf, hnx, c1, c2, hrf, c4, fun j hj => absurd hj (by omega)⟩, E⟩) (fun z => z)
set_option maxRecDepth 100000 in
set_option maxHeartbeats 4000000 in
theorem lp_X7_notes2 {h0 : jH} {an : Nat} {ap : Nat → hw} {w : hw} {s : Nat → Int32} (hW0 : h0[224]? = some (jN 41 w)) (han : an ≤ 24) {X : jX} (hX : jRet X (none) none (fun v h' => v = none ∧ (∃ s' : Nat → Int32, RO h' s' ∧ s' 8 = nI (min (an + 1) 24) ∧ ∀ k, k ≠ 8 → s' k = s k) ∧ rActs h' (min (an + 1) 24) (s_noteP an ap w) ∧ jEq h0 h' (fun j => j = 218 ∨ j = 227))) {h : jH} {m : Nat} (hm : m < 24) (hm2 : min (an + 1) 24 = m + 1) {s' : Nat → Int32} (hO : RO h s') (hs8 : s' 8 = nI m) (hs : ∀ k, k ≠ 8 → s' k = s k) (hW : h[224]? = some (jN 41 w)) {Pa : Nat → Nat} (hP : h[227]? = some (jN 984 Pa)) (hPa : ∀ j, j < m → ∀ k, k < 41 → Pa (41 * j + k) = s_noteP an ap w j k) (E : jEq h0 h (fun j => j = 218 ∨ j = 227)) (l1 : Option Value) : jV cX7_notes RX7 1 X none 49 [some (.ref 218), l1] [] h := by
  refine e_al0 dX7_notes_49 ?_
  refine e_get dX7_notes_50 fX7_25 hO rfl ?_
  refine e_iconst (nI 0) dX7_notes_53 (by decide) ?_
  refine e_al0 dX7_notes_54 ?_
  refine e_get dX7_notes_55 fX7_34 hO rfl ?_
  refine e_bipush (nI 41) dX7_notes_58 (by decide) ?_
  refine e_al0 dX7_notes_60 ?_
  refine e_get dX7_notes_61 fX7_151 hO rfl ?_
  rw [hs8]
  refine e_imulN dX7_notes_64 ?_
  refine e_cs dX7_notes_65 sX7_147 (m_X7_copies hW hP (by omega) (v1 := 0) (v2 := 41 * m) (by omega) (by omega) (by omega) (by omega)) (by decide) rfl rfl (Nat.le_of_ble_eq_true rfl) jBud0 ?_
  rintro _ h1 ⟨rfl, P2, hh, hP2⟩
  replace hO := jhs hh hO (by omega)
  replace hW := jhs hh hW (by omega)
  replace hP := jhs_at hh hP
  replace E := jEq.hs hh E (Or.inr rfl)
  clear hh
  refine e_al0 dX7_notes_68 ?_
  refine e_dup dX7_notes_69 rfl ?_
  refine e_get dX7_notes_70 fX7_151 hO rfl ?_
  rw [hs8]
  refine e_iconst (nI 1) dX7_notes_73 (by decide) ?_
  refine e_iaddN dX7_notes_74 ?_
  refine e_put dX7_notes_75 fX7_151 hO (Nat.le_of_ble_eq_true rfl) (fun g => ⟨rfl, rfl⟩) ?_
  refine e_abs (fun h2 hh => ?_)
  replace hO : RO h2 (upd s' 8 (nI (m + 1))) := jhs_at hh hO
  replace hP := jhs hh hP (by omega)
  replace E := jEq.hs hh E (Or.inl rfl)
  clear hh
  exact e_ret hX dX7_notes_78 (⟨rfl, ⟨_, hO, by rw [hm2]; rfl, fun k hk => by rw [upd, if_neg hk]; exact hs k hk⟩, ⟨P2, hP, fun j hj k hk => by
        rw [hP2]
        by_cases e : j = m
        · rw [if_pos (by omega), show j = min (an + 1) 24 - 1 by omega, s_noteP_new han, show 0 + (41 * (min (an + 1) 24 - 1) + k - 41 * m) = k by omega]
        · rw [if_neg (by omega)]; exact hPa j (by omega) k hk⟩, E⟩) (fun z => z)
set_option maxRecDepth 100000 in
set_option maxHeartbeats 4000000 in
theorem lp_X7_notes1 {h0 : jH} {an : Nat} {ap : Nat → hw} {w : hw} {s : Nat → Int32} (hW0 : h0[224]? = some (jN 41 w)) (han : an ≤ 24) {X : jX} (hX : jRet X (none) none (fun v h' => v = none ∧ (∃ s' : Nat → Int32, RO h' s' ∧ s' 8 = nI (min (an + 1) 24) ∧ ∀ k, k ≠ 8 → s' k = s k) ∧ rActs h' (min (an + 1) 24) (s_noteP an ap w) ∧ jEq h0 h' (fun j => j = 218 ∨ j = 227))) (han4 : an = 24) (hs8 : s 8 = nI 24) {Pa : Nat → Nat} (hPa : ∀ j, j < an → ∀ k, k < 41 → Pa (41 * j + k) = ap j k) : ∀ (n i : Nat) (h : jH) (P2 : Nat → Nat), 943 - i < n → i ≤ 943 → RO h s → h[224]? = some (jN 41 w) → h[227]? = some (jN 984 P2) → (∀ k, k < i → P2 k = Pa (k + 41)) → (∀ k, i ≤ k → P2 k = Pa k) → jEq h0 h (fun j => j = 218 ∨ j = 227) → jV cX7_notes RX7 1 X none 11 [some (.ref 218), some (.int (nI i))] [] h := by
  intro n
  induction n with
  | zero => intros; omega
  | succ n ih =>
    intro i h P2 hm hi hO hW hP h1P h2P E
    refine e_il1 dX7_notes_11 ?_
    refine e_sipush (nI 943) dX7_notes_12 (by decide) ?_
    refine e_ic_geN 39 dX7_notes_15 (by decide) (by omega) (by omega) (fun c_15 => ?_) (fun c_15 => ?_)
    · refine e_al0 dX7_notes_39 ?_
      refine e_dup dX7_notes_40 rfl ?_
      refine e_get dX7_notes_41 fX7_151 hO rfl ?_
      rw [hs8]
      refine e_iconst (nI 1) dX7_notes_44 (by decide) ?_
      refine e_isubN dX7_notes_45 (by omega) ?_
      refine e_put dX7_notes_46 fX7_151 hO (Nat.le_of_ble_eq_true rfl) (fun g => ⟨rfl, rfl⟩) ?_
      refine e_abs (fun h2 hh => ?_)
      replace hO : RO h2 (upd s 8 (nI 23)) := jhs_at hh hO
      replace hW := jhs hh hW (by omega)
      replace hP := jhs hh hP (by omega)
      replace E := jEq.hs hh E (Or.inl rfl)
      clear hh
      refine lp_X7_notes2 hW0 han hX (m := 23) (by omega) (by omega) hO rfl (fun k hk => by rw [upd, if_neg hk]) hW hP (fun j hj k hk => ?_) E _
      rw [h1P _ (by omega), s_noteP_old han (by omega), if_pos han4, show 41 * j + k + 41 = 41 * (j + 1) + k by omega]
      exact hPa (j + 1) (by omega) k hk
    · refine e_al0 dX7_notes_18 ?_
      refine e_get dX7_notes_19 fX7_34 hO rfl ?_
      refine e_il1 dX7_notes_22 ?_
      refine e_al0 dX7_notes_23 ?_
      refine e_get dX7_notes_24 fX7_34 hO rfl ?_
      refine e_il1 dX7_notes_27 ?_
      refine e_bipush (nI 41) dX7_notes_28 (by decide) ?_
      refine e_iaddN dX7_notes_30 ?_
      refine e_ialdN dX7_notes_31 hP (by omega) (by decide) ?_
      refine e_iastN dX7_notes_32 hP (by omega) (by decide) ?_
      refine e_abs (fun h1 hh => ?_)
      replace hO := jhs hh hO (by omega)
      replace hW := jhs hh hW (by omega)
      replace hP := jhs_at hh hP
      replace E := jEq.hs hh E (Or.inr rfl)
      clear hh
      refine e_inc1N dX7_notes_33 rfl ?_
      refine e_goto 11 dX7_notes_36 (by decide) ?_
      refine ih (i + 1) _ _ (by omega) (by omega) hO hW hP (fun k hk => ?_) (fun k hk => ?_) E
      · unfold va_up
        by_cases e : k = i
        · rw [if_pos e, h2P (i + 41) (by omega), e]
        · rw [if_neg e]; exact h1P k (by omega)
      · unfold va_up
        rw [if_neg (by omega)]; exact h2P k (by omega)
set_option maxRecDepth 100000 in
set_option maxHeartbeats 4000000 in
theorem m_X7_notes {h : jH} {an : Nat} {ap : Nat → hw} {w : hw} {s : Nat → Int32} (hO : RO h s) (hs8 : s 8 = nI an) (hW : h[224]? = some (jN 41 w)) (hR : rActs h an ap) (han : an ≤ 24) : jM yX7_notes cX7_notes 2 (none : Option Jvm.ClassFile.FieldType) 1 none [.ref 218] h (fun v h' => v = none ∧ (∃ s' : Nat → Int32, RO h' s' ∧ s' 8 = nI (min (an + 1) 24) ∧ ∀ k, k ≠ 8 → s' k = s k) ∧ rActs h' (min (an + 1) 24) (s_noteP an ap w) ∧ jEq h h' (fun j => j = 218 ∨ j = 227)) := by
  obtain ⟨Pa, hP, hPa⟩ := hR
  refine jM.ofF (by decide +kernel) rfl (Nat.le_of_ble_eq_true rfl) (fun X hX hI => ?_)
  show jV cX7_notes RX7 1 X none 0 [some (.ref 218), none] [] h
  refine e_al0 dX7_notes_0 ?_
  refine e_get dX7_notes_1 fX7_151 hO rfl ?_
  rw [hs8]
  refine e_bipush (nI 24) dX7_notes_4 (by decide) ?_
  refine e_ic_neN 49 dX7_notes_6 (by decide) (by omega) (by omega) (fun c_6 => ?_) (fun c_6 => ?_)
  · exact lp_X7_notes2 hW han hX (m := an) (by omega) (by omega) hO hs8 (fun _ _ => rfl) hW hP (fun j hj k hk => by rw [s_noteP_old han (by omega), if_neg c_6]; exact hPa j hj k hk) jEq.rf _
  · refine e_iconst (nI 0) dX7_notes_9 (by decide) ?_
    refine e_is1 dX7_notes_10 rfl ?_
    exact lp_X7_notes1 hW han hX (by omega) (by rw [hs8, c_6]) hPa 944 0 _ Pa (by omega) (by omega) hO hW hP (fun k hk => absurd hk (by omega)) (fun k hk => rfl) jEq.rf
