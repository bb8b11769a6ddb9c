set_option maxRecDepth 100000 in
set_option maxHeartbeats 4000000 in
theorem m_X6_isWithin {h : jH} {x y u : Int32} : jM yX6_isWithin cX6_isWithin 3 (some .boolean) 0 none [.int x, .int y, .int u] h (jRt (.int (jb (y ≤ x ∧ x ≤ u))) h) := by
  refine jM.ofF (by decide +kernel) rfl (Nat.le_of_ble_eq_true rfl) (fun X hX hI => ?_)
  show jV cX6_isWithin RX6 0 X none 0 [some (.int x), some (.int y), some (.int u)] [] h
  refine e_il0 dX6_isWithin_0 ?_
  refine e_il1 dX6_isWithin_1 ?_
  refine e_ic_lt 14 dX6_isWithin_2 (by decide) (fun c_2 => ?_) (fun c_2 => ?_)
  · refine e_iconst (nI 0) dX6_isWithin_14 (by decide) ?_
    exact e_zret hX dX6_isWithin_15 rfl (by first | exact jRt_t ⟨fa_of_nlt c_2, fa_of_nlt c_7⟩ | exact jRt_f (fun q => absurd c_2 (by have := q.1; rw [fa_le] at this; rw [fa_lt]; omega)) | exact jRt_f (fun q => absurd c_7 (by have := q.2; rw [fa_le] at this; rw [fa_lt]; omega))) (fun z => z)
  · refine e_il0 dX6_isWithin_5 ?_
    refine e_il2 dX6_isWithin_6 ?_
    refine e_ic_gt 14 dX6_isWithin_7 (by decide) (fun c_7 => ?_) (fun c_7 => ?_)
    · refine e_iconst (nI 0) dX6_isWithin_14 (by decide) ?_
      exact e_zret hX dX6_isWithin_15 rfl (by first | exact jRt_t ⟨fa_of_nlt c_2, fa_of_nlt c_7⟩ | exact jRt_f (fun q => absurd c_2 (by have := q.1; rw [fa_le] at this; rw [fa_lt]; omega)) | exact jRt_f (fun q => absurd c_7 (by have := q.2; rw [fa_le] at this; rw [fa_lt]; omega))) (fun z => z)
    · refine e_iconst (nI 1) dX6_isWithin_10 (by decide) ?_
      refine e_goto 15 dX6_isWithin_11 (by decide) ?_
      exact e_zret hX dX6_isWithin_15 rfl (by first | exact jRt_t ⟨fa_of_nlt c_2, fa_of_nlt c_7⟩ | exact jRt_f (fun q => absurd c_2 (by have := q.1; rw [fa_le] at this; rw [fa_lt]; omega)) | exact jRt_f (fun q => absurd c_7 (by have := q.2; rw [fa_le] at this; rw [fa_lt]; omega))) (fun z => z)
theorem m_X6_isWithinR {h : jH} {x : Int32} {a b : Nat} (ha : a < 2 ^ 31) (hb : b < 2 ^ 31) : jM yX6_isWithin cX6_isWithin 3 (some .boolean) 0 none [.int x, .int (nI a), .int (nI b)] h (jRt (.int (jb (iR x a b))) h) := by
  rw [← jb_iff (iR_le (x := x) ha hb)]
  exact m_X6_isWithin
theorem m_X6_isWithinN {h : jH} {x : Int32} {n : Nat} (hn : n < 1000) : jM yX6_isWithin cX6_isWithin 3 (some .boolean) 0 none [.int x, .int (nI 0), .int (nI n - nI 1)] h (jRt (.int (jb (iN x n))) h) := by
  rw [← jb_iff (iN_le (x := x) hn)]
  exact m_X6_isWithin
theorem m_X7_inR {h : jH} {x : Int32} {a b : Nat} (ha : a < 2 ^ 31) (hb : b < 2 ^ 31) : jM yX7_in cX7_in 3 (some .boolean) 0 none [.int x, .int (nI a), .int (nI b)] h (jRt (.int (jb (iR x a b))) h) := by
  rw [← jb_iff (iR_le (x := x) ha hb)]
  exact m_X7_in
theorem m_X7_inN {h : jH} {x : Int32} {n : Nat} (hn : n < 1000) : jM yX7_in cX7_in 3 (some .boolean) 0 none [.int x, .int (nI 0), .int (nI n - nI 1)] h (jRt (.int (jb (iN x n))) h) := by
  rw [← jb_iff (iN_le (x := x) hn)]
  exact m_X7_in
set_option maxRecDepth 100000 in
set_option maxHeartbeats 4000000 in
theorem m_X6_isRow {h : jH} {x : Int32} : jM yX6_isRow cX6_isRow 1 (some .boolean) 1 none [.int x] h (jRt (.int (jb (iR x 0 7))) h) := by
  refine jM.ofF (by decide +kernel) rfl (Nat.le_of_ble_eq_true rfl) (fun X hX hI => ?_)
  show jV cX6_isRow RX6 1 X none 0 [some (.int x)] [] h
  refine e_il0 dX6_isRow_0 ?_
  refine e_iconst (nI 0) dX6_isRow_1 (by decide) ?_
  refine e_bipush (nI 7) dX6_isRow_2 (by decide) ?_
  refine e_cs dX6_isRow_4 sX6_63 (m_X6_isWithinR (by decide) (by decide)) (by decide) rfl rfl (Nat.le_of_ble_eq_true rfl) jBud0 ?_
  rintro _ _ ⟨rfl, rfl⟩
  exact e_zret hX dX6_isRow_7 jb_nar (jRt_b Iff.rfl) (fun z => z)
set_option maxRecDepth 100000 in
set_option maxHeartbeats 4000000 in
theorem m_X7_isRow {h : jH} {x : Int32} : jM yX7_isRow cX7_isRow 1 (some .boolean) 1 none [.int x] h (jRt (.int (jb (iR x 0 7))) h) := by
  refine jM.ofF (by decide +kernel) rfl (Nat.le_of_ble_eq_true rfl) (fun X hX hI => ?_)
  show jV cX7_isRow RX7 1 X none 0 [some (.int x)] [] h
  refine e_il0 dX7_isRow_0 ?_
  refine e_iconst (nI 0) dX7_isRow_1 (by decide) ?_
  refine e_bipush (nI 7) dX7_isRow_2 (by decide) ?_
  refine e_cs dX7_isRow_4 sX7_65 (m_X7_inR (by decide) (by decide)) (by decide) rfl rfl (Nat.le_of_ble_eq_true rfl) jBud0 ?_
  rintro _ _ ⟨rfl, rfl⟩
  exact e_zret hX dX7_isRow_7 jb_nar (jRt_b Iff.rfl) (fun z => z)
set_option maxRecDepth 100000 in
set_option maxHeartbeats 4000000 in
theorem mc_X6_isPair {h : jH} {st : Nat} {w : hw} {f k b p g z : Nat → Nat} (hT : cTop h st) (hC : HC h 14 w f k b p g z) (hw : w 3 < 1000) {x : Int32} : jM yX6_isPair cX6_isPair 2 (some .boolean) 1 none [.ref 0, .int x] h (jRt (.int (jb (iN x (w 3)))) h) := by
  refine jM.ofF (by decide +kernel) rfl (Nat.le_of_ble_eq_true rfl) (fun X hX hI => ?_)
  show jV cX6_isPair RX6 1 X none 0 [some (.ref 0), some (.int x)] [] h
  refine e_il1 dX6_isPair_0 ?_
  refine e_iconst (nI 0) dX6_isPair_1 (by decide) ?_
  refine e_al0 dX6_isPair_2 ?_
  refine e_get dX6_isPair_3 fX6_26 hT rfl ?_
  refine e_get dX6_isPair_6 fX6_276 hC.1 rfl ?_
  refine e_iconst (nI 1) dX6_isPair_9 (by decide) ?_
  refine e_isub dX6_isPair_10 ?_
  refine e_cs dX6_isPair_11 sX6_63 (m_X6_isWithinN (by omega)) (by decide) rfl rfl (Nat.le_of_ble_eq_true rfl) jBud0 ?_
  rintro _ _ ⟨rfl, rfl⟩
  exact e_zret hX dX6_isPair_14 jb_nar (jRt_b Iff.rfl) (fun z => z)
theorem m_X6_isPair {h : jH} {st : Nat} {w : hw} (hT : cTop h st) (hA : HA h 14 w) (hw : w 3 < 1000) {x : Int32} : jM yX6_isPair cX6_isPair 2 (some .boolean) 1 none [.ref 0, .int x] h (jRt (.int (jb (iN x (w 3)))) h) := by
  obtain ⟨f, k, b, p, g, z, hC, -⟩ := hA
  exact mc_X6_isPair hT hC hw
set_option maxRecDepth 100000 in
set_option maxHeartbeats 4000000 in
theorem m_X7_isPair {h : jH} {s : Nat → Int32} {w : hw} (hO : RO h s) (hW : h[224]? = some (jN 41 w)) (hw : w 3 < 1000) {x : Int32} : jM yX7_isPair cX7_isPair 2 (some .boolean) 1 none [.ref 218, .int x] h (jRt (.int (jb (iN x (w 3)))) h) := by
  refine jM.ofF (by decide +kernel) rfl (Nat.le_of_ble_eq_true rfl) (fun X hX hI => ?_)
  show jV cX7_isPair RX7 1 X none 0 [some (.ref 218), some (.int x)] [] h
  refine e_il1 dX7_isPair_0 ?_
  refine e_iconst (nI 0) dX7_isPair_1 (by decide) ?_
  refine e_al0 dX7_isPair_2 ?_
  refine e_get dX7_isPair_3 fX7_25 hO rfl ?_
  refine e_iconst (nI 3) dX7_isPair_6 (by decide) ?_
  refine e_ialdN dX7_isPair_7 hW (by omega) (by decide) ?_
  refine e_iconst (nI 1) dX7_isPair_8 (by decide) ?_
  refine e_isub dX7_isPair_9 ?_
  refine e_cs dX7_isPair_10 sX7_65 (m_X7_inN (by omega)) (by decide) rfl rfl (Nat.le_of_ble_eq_true rfl) jBud0 ?_
  rintro _ _ ⟨rfl, rfl⟩
  exact e_zret hX dX7_isPair_13 jb_nar (jRt_b Iff.rfl) (fun z => z)
set_option maxRecDepth 100000 in
set_option maxHeartbeats 4000000 in
theorem mc_X6_isHearth {h : jH} {st : Nat} {w : hw} {f k b p g z : Nat → Nat} (hT : cTop h st) (hC : HC h 14 w f k b p g z) (hw : w 2 < 1000) {x : Int32} : jM yX6_isHearth cX6_isHearth 2 (some .boolean) 1 none [.ref 0, .int x] h (jRt (.int (jb (iN x (w 2)))) h) := by
  refine jM.ofF (by decide +kernel) rfl (Nat.le_of_ble_eq_true rfl) (fun X hX hI => ?_)
  show jV cX6_isHearth RX6 1 X none 0 [some (.ref 0), some (.int x)] [] h
  refine e_il1 dX6_isHearth_0 ?_
  refine e_iconst (nI 0) dX6_isHearth_1 (by decide) ?_
  refine e_al0 dX6_isHearth_2 ?_
  refine e_get dX6_isHearth_3 fX6_26 hT rfl ?_
  refine e_get dX6_isHearth_6 fX6_135 hC.1 rfl ?_
  refine e_iconst (nI 1) dX6_isHearth_9 (by decide) ?_
  refine e_isub dX6_isHearth_10 ?_
  refine e_cs dX6_isHearth_11 sX6_63 (m_X6_isWithinN (by omega)) (by decide) rfl rfl (Nat.le_of_ble_eq_true rfl) jBud0 ?_
  rintro _ _ ⟨rfl, rfl⟩
  exact e_zret hX dX6_isHearth_14 jb_nar (jRt_b Iff.rfl) (fun z => z)
theorem m_X6_isHearth {h : jH} {st : Nat} {w : hw} (hT : cTop h st) (hA : HA h 14 w) (hw : w 2 < 1000) {x : Int32} : jM yX6_isHearth cX6_isHearth 2 (some .boolean) 1 none [.ref 0, .int x] h (jRt (.int (jb (iN x (w 2)))) h) := by
  obtain ⟨f, k, b, p, g, z, hC, -⟩ := hA
  exact mc_X6_isHearth hT hC hw
set_option maxRecDepth 100000 in
set_option maxHeartbeats 4000000 in
theorem m_X7_isHearth {h : jH} {s : Nat → Int32} {w : hw} (hO : RO h s) (hW : h[224]? = some (jN 41 w)) (hw : w 2 < 1000) {x : Int32} : jM yX7_isHearth cX7_isHearth 2 (some .boolean) 1 none [.ref 218, .int x] h (jRt (.int (jb (iN x (w 2)))) h) := by
  refine jM.ofF (by decide +kernel) rfl (Nat.le_of_ble_eq_true rfl) (fun X hX hI => ?_)
  show jV cX7_isHearth RX7 1 X none 0 [some (.ref 218), some (.int x)] [] h
  refine e_il1 dX7_isHearth_0 ?_
  refine e_iconst (nI 0) dX7_isHearth_1 (by decide) ?_
  refine e_al0 dX7_isHearth_2 ?_
  refine e_get dX7_isHearth_3 fX7_25 hO rfl ?_
  refine e_iconst (nI 2) dX7_isHearth_6 (by decide) ?_
  refine e_ialdN dX7_isHearth_7 hW (by omega) (by decide) ?_
  refine e_iconst (nI 1) dX7_isHearth_8 (by decide) ?_
  refine e_isub dX7_isHearth_9 ?_
  refine e_cs dX7_isHearth_10 sX7_65 (m_X7_inN (by omega)) (by decide) rfl rfl (Nat.le_of_ble_eq_true rfl) jBud0 ?_
  rintro _ _ ⟨rfl, rfl⟩
  exact e_zret hX dX7_isHearth_13 jb_nar (jRt_b Iff.rfl) (fun z => z)
set_option maxRecDepth 100000 in
set_option maxHeartbeats 4000000 in
theorem m_X7_isHouse {h : jH} {s : Nat → Int32} {w : hw} (hO : RO h s) (hW : h[224]? = some (jN 41 w)) (hw : w 1 < 1000) : jM yX7_isHouse cX7_isHouse 1 (some .boolean) 0 none [.ref 218] h (jRt (.int (jb (0 < w 1))) h) := by
  refine jM.ofF (by decide +kernel) rfl (Nat.le_of_ble_eq_true rfl) (fun X hX hI => ?_)
  show jV cX7_isHouse RX7 0 X none 0 [some (.ref 218)] [] h
  refine e_al0 dX7_isHouse_0 ?_
  refine e_get dX7_isHouse_1 fX7_25 hO rfl ?_
  refine e_iconst (nI 1) dX7_isHouse_4 (by decide) ?_
  refine e_ialdN dX7_isHouse_5 hW (by omega) (by decide) ?_
  refine e_if_leN 13 dX7_isHouse_6 (by decide) (by omega) (fun c_6 => ?_) (fun c_6 => ?_)
  · refine e_iconst (nI 0) dX7_isHouse_13 (by decide) ?_
    exact e_zret hX dX7_isHouse_14 rfl (by first | exact jRt_t (by omega) | exact jRt_f (by omega)) (fun z => z)
  · refine e_iconst (nI 1) dX7_isHouse_9 (by decide) ?_
    refine e_goto 14 dX7_isHouse_10 (by decide) ?_
    exact e_zret hX dX7_isHouse_14 rfl (by first | exact jRt_t (by omega) | exact jRt_f (by omega)) (fun z => z)
set_option maxRecDepth 100000 in
set_option maxHeartbeats 4000000 in
theorem m_X6_found {h : jH} {st x : Nat} (hT : cTop h st) : jM yX6_found cX6_found 2 (some .int) 0 none [.ref 0, .int (nI x)] h (fun v h' => v = some (.int (-1000010 - nI x)) ∧ cTop h' x ∧ jEq h h' (fun j => j = 0)) := by
  refine jM.ofF (by decide +kernel) rfl (Nat.le_of_ble_eq_true rfl) (fun X hX hI => ?_)
  show jV cX6_found RX6 0 X none 0 [some (.ref 0), some (.int (nI x))] [] h
  refine e_al0 dX6_found_0 ?_
  refine e_il1 dX6_found_1 ?_
  refine e_put dX6_found_2 fX6_55 hT (Nat.le_of_ble_eq_true rfl) (fun g => ⟨rfl, rfl⟩) ?_
  refine e_abs (fun h1 hh => ?_)
  replace hT := jhs_at hh hT
  have E := jEq.hs hh (jEq.rf (h := h) (P := fun j => j = 0)) rfl
  refine e_ldcw dX6_found_5 kX6_282 ?_
  refine e_il1 dX6_found_8 ?_
  refine e_isub dX6_found_9 ?_
  exact e_iret hX dX6_found_10 (⟨rfl, hT, E⟩) (fun z => z)
set_option maxRecDepth 100000 in
set_option maxHeartbeats 4000000 in
theorem m_X6_unfound {h : jH} {st : Nat} {x : Int32} (hT : cTop h st) : jM yX6_unfound cX6_unfound 2 (some .int) 0 none [.ref 0, .int x] h (fun v h' => v = some (.int x) ∧ cTop h' 0 ∧ jEq h h' (fun j => j = 0)) := by
  refine jM.ofF (by decide +kernel) rfl (Nat.le_of_ble_eq_true rfl) (fun X hX hI => ?_)
  show jV cX6_unfound RX6 0 X none 0 [some (.ref 0), some (.int x)] [] h
  refine e_al0 dX6_unfound_0 ?_
  refine e_iconst (nI 0) dX6_unfound_1 (by decide) ?_
  refine e_put dX6_unfound_2 fX6_55 hT (Nat.le_of_ble_eq_true rfl) (fun g => ⟨rfl, rfl⟩) ?_
  refine e_abs (fun h1 hh => ?_)
  replace hT := jhs_at hh hT
  have E := jEq.hs hh (jEq.rf (h := h) (P := fun j => j = 0)) rfl
  refine e_il1 dX6_unfound_5 ?_
  exact e_iret hX dX6_unfound_6 (⟨rfl, hT, E⟩) (fun z => z)
set_option maxRecDepth 100000 in
set_option maxHeartbeats 4000000 in
theorem m_X7_found {h : jH} {s : Nat → Int32} {x : Nat} (hO : RO h s) : jM yX7_found cX7_found 2 (some .int) 0 none [.ref 218, .int (nI x)] h (fun v h' => v = some (.int (-1000010 - nI x)) ∧ RO h' (upd s 0 (nI x)) ∧ jEq h h' (fun j => j = 218)) := by
  refine jM.ofF (by decide +kernel) rfl (Nat.le_of_ble_eq_true rfl) (fun X hX hI => ?_)
  show jV cX7_found RX7 0 X none 0 [some (.ref 218), some (.int (nI x))] [] h
  refine e_al0 dX7_found_0 ?_
  refine e_il1 dX7_found_1 ?_
  refine e_put dX7_found_2 fX7_60 hO (Nat.le_of_ble_eq_true rfl) (fun g => ⟨rfl, rfl⟩) ?_
  refine e_abs (fun h1 hh => ?_)
  replace hO := jhs_at hh hO
  have E := jEq.hs hh (jEq.rf (h := h) (P := fun j => j = 218)) rfl
  refine e_ldc dX7_found_5 kX7_64 ?_
  refine e_il1 dX7_found_7 ?_
  refine e_isub dX7_found_8 ?_
  exact e_iret hX dX7_found_9 (⟨rfl, hO, E⟩) (fun z => z)
set_option maxRecDepth 100000 in
set_option maxHeartbeats 4000000 in
theorem m_X7_well {h : jH} {s : Nat → Int32} {x : Int32} (hO : RO h s) : jM yX7_well cX7_well 2 (some .int) 0 none [.ref 218, .int x] h (fun v h' => v = some (.int x) ∧ RO h' (upd s 0 (nI 0)) ∧ jEq h h' (fun j => j = 218)) := by
  refine jM.ofF (by decide +kernel) rfl (Nat.le_of_ble_eq_true rfl) (fun X hX hI => ?_)
  show jV cX7_well RX7 0 X none 0 [some (.ref 218), some (.int x)] [] h
  refine e_al0 dX7_well_0 ?_
  refine e_iconst (nI 0) dX7_well_1 (by decide) ?_
  refine e_put dX7_well_2 fX7_60 hO (Nat.le_of_ble_eq_true rfl) (fun g => ⟨rfl, rfl⟩) ?_
  refine e_abs (fun h1 hh => ?_)
  replace hO := jhs_at hh hO
  have E := jEq.hs hh (jEq.rf (h := h) (P := fun j => j = 218)) rfl
  refine e_il1 dX7_well_5 ?_
  exact e_iret hX dX7_well_6 (⟨rfl, hO, E⟩) (fun z => z)
def bu (x : Int32) (k : Nat) : Int32 := (x.toUInt32 >>> ((nI k).toUInt32 &&& Int32.toUInt32 31)).toInt32
def bc1 (x : Int32) : Int32 := x - (bu x 1 &&& 1431655765)
def bc2 (x : Int32) : Int32 := (x &&& 858993459) + (bu x 2 &&& 858993459)
def bc3 (x : Int32) : Int32 := (x + bu x 4) &&& 252645135
def bc4 (x : Int32) (k : Nat) : Int32 := x + bu x k
def bcI (x : Int32) : Int32 := bc4 (bc4 (bc3 (bc2 (bc1 x))) 8) 16 &&& nI 63
theorem bcI_bits : ∀ s, s < 256 → bcI (nI s) = nI (s_bits s 8) := by decide +kernel
set_option maxRecDepth 100000 in
set_option maxHeartbeats 4000000 in
theorem m_bitCountI {h : jH} {x : Int32} : jM yJ6_bitCount_0f7a4 cJ6_bitCount_0f7a4 1 (some .int) 0 none [.int x] h (jRt (.int (bcI x)) h) := by
  refine jM.ofF (by decide +kernel) rfl (Nat.le_of_ble_eq_true rfl) (fun X hX hI => ?_)
  show jV cJ6_bitCount_0f7a4 RJ6 0 X none 0 [some (.int x)] [] h
  refine e_il0 dJ6_bitCount_0f7a4_0 ?_
  refine e_il0 dJ6_bitCount_0f7a4_1 ?_
  refine e_iconst (nI 1) dJ6_bitCount_0f7a4_2 (by decide) ?_
  refine e_iushr dJ6_bitCount_0f7a4_3 ?_
  refine e_ldcw dJ6_bitCount_0f7a4_4 kJ6_265 ?_
  refine e_iand dJ6_bitCount_0f7a4_7 ?_
  refine e_isub dJ6_bitCount_0f7a4_8 ?_
  refine e_is0 dJ6_bitCount_0f7a4_9 ?_
  refine e_il0 dJ6_bitCount_0f7a4_10 ?_
  refine e_ldcw dJ6_bitCount_0f7a4_11 kJ6_266 ?_
  refine e_iand dJ6_bitCount_0f7a4_14 ?_
  refine e_il0 dJ6_bitCount_0f7a4_15 ?_
  refine e_iconst (nI 2) dJ6_bitCount_0f7a4_16 (by decide) ?_
  refine e_iushr dJ6_bitCount_0f7a4_17 ?_
  refine e_ldcw dJ6_bitCount_0f7a4_18 kJ6_266 ?_
  refine e_iand dJ6_bitCount_0f7a4_21 ?_
  refine e_iadd dJ6_bitCount_0f7a4_22 ?_
  refine e_is0 dJ6_bitCount_0f7a4_23 ?_
  refine e_il0 dJ6_bitCount_0f7a4_24 ?_
  refine e_il0 dJ6_bitCount_0f7a4_25 ?_
  refine e_iconst (nI 4) dJ6_bitCount_0f7a4_26 (by decide) ?_
  refine e_iushr dJ6_bitCount_0f7a4_27 ?_
  refine e_iadd dJ6_bitCount_0f7a4_28 ?_
  refine e_ldcw dJ6_bitCount_0f7a4_29 kJ6_267 ?_
  refine e_iand dJ6_bitCount_0f7a4_32 ?_
  refine e_is0 dJ6_bitCount_0f7a4_33 ?_
  refine e_il0 dJ6_bitCount_0f7a4_34 ?_
  refine e_il0 dJ6_bitCount_0f7a4_35 ?_
  refine e_bipush (nI 8) dJ6_bitCount_0f7a4_36 (by decide) ?_
  refine e_iushr dJ6_bitCount_0f7a4_38 ?_
  refine e_iadd dJ6_bitCount_0f7a4_39 ?_
  refine e_is0 dJ6_bitCount_0f7a4_40 ?_
  refine e_il0 dJ6_bitCount_0f7a4_41 ?_
  refine e_il0 dJ6_bitCount_0f7a4_42 ?_
  refine e_bipush (nI 16) dJ6_bitCount_0f7a4_43 (by decide) ?_
  refine e_iushr dJ6_bitCount_0f7a4_45 ?_
  refine e_iadd dJ6_bitCount_0f7a4_46 ?_
  refine e_is0 dJ6_bitCount_0f7a4_47 ?_
  refine e_il0 dJ6_bitCount_0f7a4_48 ?_
  refine e_bipush (nI 63) dJ6_bitCount_0f7a4_49 (by decide) ?_
  refine e_iand dJ6_bitCount_0f7a4_51 ?_
  exact e_iret hX dJ6_bitCount_0f7a4_52 (⟨rfl, rfl⟩) (fun z => z)
theorem m_bitCount {h : jH} {s : Nat} (hs : s < 256) : jM yJ6_bitCount_0f7a4 cJ6_bitCount_0f7a4 1 (some .int) 0 none [.int (nI s)] h (jRt (.int (nI (s_bits s 8))) h) := by
  rw [← bcI_bits s hs]
  exact m_bitCountI
set_option maxRecDepth 100000 in
set_option maxHeartbeats 4000000 in
theorem lp_X6_power {h : jH} {x y : Nat} (hy : y < 1000) {X : jX} (hX : jRet X (some .int) none (jRt (.int (nI (x ^ y))) h)) : ∀ (n i acc : Nat), y - i < n → i ≤ y → acc = x ^ i → jV cX6_power RX6 0 X none 4 [some (.int (nI x)), some (.int (nI y)), some (.int (nI acc)), some (.int (nI i))] [] h := by
  intro n
  induction n with
  | zero => intros; omega
  | succ n ih =>
    intro i acc hm hi hacc
    refine e_il3 dX6_power_4 ?_
    refine e_il1 dX6_power_5 ?_
    refine e_ic_geN 19 dX6_power_6 (by decide) (by omega) (by omega) (fun c_6 => ?_) (fun c_6 => ?_)
    · refine e_il2 dX6_power_19 ?_
      exact e_iret hX dX6_power_20 (by rw [hacc, show i = y by omega]; exact ⟨rfl, rfl⟩) (fun z => z)
    · refine e_il2 dX6_power_9 ?_
      refine e_il0 dX6_power_10 ?_
      refine e_imulN dX6_power_11 ?_
      refine e_is2 dX6_power_12 rfl ?_
      refine e_inc3N dX6_power_13 rfl ?_
      refine e_goto 4 dX6_power_16 (by decide) ?_
      exact ih (i + 1) _ (by omega) (by omega) (by rw [hacc, Nat.pow_succ])
set_option maxRecDepth 100000 in
set_option maxHeartbeats 4000000 in
theorem m_X6_power {h : jH} {x y : Nat} (hy : y < 1000) : jM yX6_power cX6_power 4 (some .int) 0 none [.int (nI x), .int (nI y)] h (jRt (.int (nI (x ^ y))) h) := by
  refine jM.ofF (by decide +kernel) rfl (Nat.le_of_ble_eq_true rfl) (fun X hX hI => ?_)
  show jV cX6_power RX6 0 X none 0 [some (.int (nI x)), some (.int (nI y)), none, none] [] h
  refine e_iconst (nI 1) dX6_power_0 (by decide) ?_
  refine e_is2 dX6_power_1 rfl ?_
  refine e_iconst (nI 0) dX6_power_2 (by decide) ?_
  refine e_is3 dX6_power_3 rfl ?_
  exact lp_X6_power hy hX (y + 1) 0 1 (by omega) (by omega) (by rw [Nat.pow_zero])
theorem gcd_step (m l : Nat) : Nat.gcd l (m % l) = Nat.gcd m l := by rw [Nat.gcd_comm m l, Nat.gcd_rec l m, Nat.gcd_comm]
theorem mod_half {l l1 : Nat} (h1 : l1 < l) (h0 : 0 < l1) : l % l1 ≤ l / 2 := by
  have hm := Nat.mod_lt l h0
  have hd := Nat.div_add_mod l l1
  have hq : 1 ≤ l / l1 := (Nat.le_div_iff_mul_le h0).mpr (by omega)
  have : l1 * 1 ≤ l1 * (l / l1) := Nat.mul_le_mul_left _ hq
  omega
set_option maxRecDepth 100000 in
set_option maxHeartbeats 4000000 in
theorem lp_X6_gcd {h : jH} {x y G : Nat} {X : jX} (hX : jRet X (some .int) none (jRt (.int (nI G)) h)) : ∀ (k t m l : Nat), l < 2 ^ k → t + 2 * k ≤ 63 → m < 2 ^ 31 → l < 2 ^ 31 → Nat.gcd m l = G → ∀ l5, jV cX6_greatestShared RX6 0 X none 7 [some (.int (nI x)), some (.int (nI y)), some (.int (nI m)), some (.int (nI l)), some (.int (nI t)), l5] [] h := by
  intro k
  induction k with
  | zero =>
    intro t m l hl ht hm hl2 hG l5
    refine e_il4 dX6_greatestShared_7 ?_
    refine e_bipush (nI 64) dX6_greatestShared_9 (by decide) ?_
    refine e_ic_geN 34 dX6_greatestShared_11 (by decide) (by omega) (by omega) (fun c_11 => ?_) (fun c_11 => ?_)
    · omega
    · refine e_il3 dX6_greatestShared_14 ?_
      refine e_if_eqN 34 dX6_greatestShared_15 (by decide) (by omega) (fun c_15 => ?_) (fun c_15 => ?_)
      · refine e_il2 dX6_greatestShared_34 ?_
        exact e_iret hX dX6_greatestShared_35 (by rw [← hG, show l = 0 by omega, Nat.gcd_zero_right]; exact ⟨rfl, rfl⟩) (fun z => z)
      · omega
  | succ k ih =>
    intro t m l hl ht hm hl2 hG l5
    have hp : 2 ^ (k + 1) = 2 ^ k * 2 := Nat.pow_succ 2 k
    refine e_il4 dX6_greatestShared_7 ?_
    refine e_bipush (nI 64) dX6_greatestShared_9 (by decide) ?_
    refine e_ic_geN 34 dX6_greatestShared_11 (by decide) (by omega) (by omega) (fun c_11 => ?_) (fun c_11 => ?_)
    · omega
    · refine e_il3 dX6_greatestShared_14 ?_
      refine e_if_eqN 34 dX6_greatestShared_15 (by decide) (by omega) (fun c_15 => ?_) (fun c_15 => ?_)
      · refine e_il2 dX6_greatestShared_34 ?_
        exact e_iret hX dX6_greatestShared_35 (by rw [← hG, show l = 0 by omega, Nat.gcd_zero_right]; exact ⟨rfl, rfl⟩) (fun z => z)
      · refine e_il2 dX6_greatestShared_18 ?_
        refine e_il3 dX6_greatestShared_19 ?_
        refine e_iremN dX6_greatestShared_20 (by omega) (by omega) (by omega) ?_
        refine e_is5 dX6_greatestShared_21 rfl ?_
        refine e_il3 dX6_greatestShared_23 ?_
        refine e_is2 dX6_greatestShared_24 rfl ?_
        refine e_il5 dX6_greatestShared_25 ?_
        refine e_is3 dX6_greatestShared_27 rfl ?_
        refine e_inc4N dX6_greatestShared_28 rfl ?_
        refine e_goto 7 dX6_greatestShared_31 (by decide) ?_
        have h1 := Nat.mod_lt m (show 0 < l by omega)
        refine e_il4 dX6_greatestShared_7 ?_
        refine e_bipush (nI 64) dX6_greatestShared_9 (by decide) ?_
        refine e_ic_geN 34 dX6_greatestShared_11 (by decide) (by omega) (by omega) (fun c_11 => ?_) (fun c_11 => ?_)
        · omega
        · refine e_il3 dX6_greatestShared_14 ?_
          refine e_if_eqN 34 dX6_greatestShared_15 (by decide) (by omega) (fun c_15 => ?_) (fun c_15 => ?_)
          · refine e_il2 dX6_greatestShared_34 ?_
            exact e_iret hX dX6_greatestShared_35 (by rw [← hG, ← gcd_step, show m % l = 0 by omega, Nat.gcd_zero_right]; exact ⟨rfl, rfl⟩) (fun z => z)
          · refine e_il2 dX6_greatestShared_18 ?_
            refine e_il3 dX6_greatestShared_19 ?_
            refine e_iremN dX6_greatestShared_20 (by omega) (by omega) (by omega) ?_
            refine e_is5 dX6_greatestShared_21 rfl ?_
            refine e_il3 dX6_greatestShared_23 ?_
            refine e_is2 dX6_greatestShared_24 rfl ?_
            refine e_il5 dX6_greatestShared_25 ?_
            refine e_is3 dX6_greatestShared_27 rfl ?_
            refine e_inc4N dX6_greatestShared_28 rfl ?_
            refine e_goto 7 dX6_greatestShared_31 (by decide) ?_
            refine ih (t + 1 + 1) (m % l) (l % (m % l)) ?_ (by omega) (by omega) (by have := Nat.mod_lt l (show 0 < m % l by omega); omega) (by rw [gcd_step, gcd_step]; exact hG) _
            have := mod_half (l := l) (l1 := m % l) h1 (by omega)
            omega
set_option maxRecDepth 100000 in
set_option maxHeartbeats 4000000 in
theorem m_X6_greatestShared {h : jH} {x y : Nat} (hx : x < 2 ^ 31) (hy : y < 2 ^ 28) : jM yX6_greatestShared cX6_greatestShared 6 (some .int) 0 none [.int (nI x), .int (nI y)] h (jRt (.int (nI (Nat.gcd x y))) h) := by
  refine jM.ofF (by decide +kernel) rfl (Nat.le_of_ble_eq_true rfl) (fun X hX hI => ?_)
  show jV cX6_greatestShared RX6 0 X none 0 [some (.int (nI x)), some (.int (nI y)), none, none, none, none] [] h
  refine e_il0 dX6_greatestShared_0 ?_
  refine e_is2 dX6_greatestShared_1 rfl ?_
  refine e_il1 dX6_greatestShared_2 ?_
  refine e_is3 dX6_greatestShared_3 rfl ?_
  refine e_iconst (nI 0) dX6_greatestShared_4 (by decide) ?_
  refine e_is4 dX6_greatestShared_5 rfl ?_
  exact lp_X6_gcd hX 28 0 x y (by omega) (by omega) (by omega) (by omega) rfl _
