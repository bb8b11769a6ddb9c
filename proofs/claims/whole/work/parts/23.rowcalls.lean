set_option maxRecDepth 100000 in
set_option maxHeartbeats 4000000 in
theorem c_row {h : jH} {S : jS} (c : CI h S) (g : SG S) {r l n : Int32} : jM yX6_row cX6_row 4 (some .int) 2 none [.ref 0, .int r, .int l, .int n] h (cAns h (sp_row r l n S)) := by
  obtain ⟨c1, ⟨d1, L, I, N, d2, d3, d4, dL, dN, dI⟩, -⟩ := id c
  obtain ⟨g0, g1, -⟩ := id g
  refine jM.ofF (by decide +kernel) rfl (Nat.le_of_ble_eq_true rfl) (fun X hX hI => ?_)
  show jV cX6_row RX6 2 X none 0 [some (.ref 0), some (.int r), some (.int l), some (.int n)] [] h
  refine e_il1 dX6_row_0 ?_
  refine e_cs dX6_row_1 sX6_59 (m_X6_isRow) (by decide) rfl rfl (Nat.le_of_ble_eq_true rfl) jBud0 ?_
  rintro _ _ ⟨rfl, rfl⟩
  refine e_if_eqB 22 dX6_row_4 (by decide) (fun c_4 => ?_) (fun c_4 => ?_)
  · refine e_ldc dX6_row_22 kX6_67 ?_
    exact e_iret hX dX6_row_24 (by rw [sp_row, if_neg c_4]; exact cAns.same c rfl) (fun z => z)
  · refine e_il2 dX6_row_7 ?_
    refine e_iconst (nI 0) dX6_row_8 (by decide) ?_
    refine e_iconst (nI 2) dX6_row_9 (by decide) ?_
    refine e_cs dX6_row_10 sX6_63 (m_X6_isWithinR (by decide) (by decide)) (by decide) rfl rfl (Nat.le_of_ble_eq_true rfl) jBud0 ?_
    rintro _ _ ⟨rfl, rfl⟩
    refine e_if_eqB 22 dX6_row_13 (by decide) (fun c_13 => ?_) (fun c_13 => ?_)
    · refine e_ldc dX6_row_22 kX6_67 ?_
      exact e_iret hX dX6_row_24 (by rw [sp_row, if_pos c_4, if_neg c_13]; exact cAns.same c rfl) (fun z => z)
    · refine e_il3 dX6_row_16 ?_
      refine e_bipush (nI 40) dX6_row_17 (by decide) ?_
      refine e_ic_le 25 dX6_row_19 (by decide) (fun c_19 => ?_) (fun c_19 => ?_)
      · refine e_il3 dX6_row_25 ?_
        refine e_if_ge 35 dX6_row_26 (by decide) (fun c_26 => ?_) (fun c_26 => ?_)
        · refine e_al0 dX6_row_35 ?_
          refine e_get dX6_row_36 fX6_10 c1 rfl ?_
          have em0 : 0 ≤ n.toInt := (fa_ge0 _).mp c_26
          have em1 : n.toInt ≤ 40 := (fa_le40 _).mp c_19
          obtain ⟨r, -, hr, rfl⟩ := iR_of c_4 (by decide)
          obtain ⟨l, -, hl, rfl⟩ := iR_of c_13 (by decide)
          obtain ⟨m, hm, rfl⟩ := n_nat (m := 40) em0 em1 (by decide)
          have er : (nI r).toNatClampNeg = r := nI_clamp (by omega)
          have el : (nI l).toNatClampNeg = l := nI_clamp (by omega)
          have em : (nI m).toNatClampNeg = m := nI_clamp (by omega)
          have hr8 : r < 8 := by omega
          refine e_il1 dX6_row_39 ?_
          refine e_il2 dX6_row_40 ?_
          refine e_il3 dX6_row_41 ?_
          refine e_cv dX6_row_42 vX6_72 (m_X4_make d1 d2 d3 d4 hr8 hm) (by decide) rfl rfl (Nat.le_of_ble_eq_true rfl) jBud0 rfl d1 ?_
          rintro _ h1 ⟨rfl, I', e1, e2, e3, e4, e5, E1⟩
          refine e_al0 dX6_row_45 ?_
          refine e_il3 dX6_row_46 ?_
          refine e_cv dX6_row_47 vX6_76 (m_X6_unfound (E1.at (by omega) c1)) (by decide) rfl rfl (Nat.le_of_ble_eq_true rfl) jBud0 rfl (E1.at (by omega) c1) ?_
          rintro _ h2 ⟨rfl, t2, E2⟩
          exact e_iret hX dX6_row_50 (by
            rw [sp_row, if_pos c_4, if_pos c_13, if_pos ((fa_le40 _).mp c_19), if_pos ((fa_ge0 _).mp c_26), er, el, em]
            refine ⟨rfl, c.rows t2 ⟨E2.at (by omega) e1, _, _, _, E2.at (by omega) e2, E2.at (by omega) e3, E2.at (by omega) e4, fun q hq => ?_, fun q hq => ?_, fun q hq i hi => ?_⟩ (E1.tr E2 (fun j q => by omega) (fun j q => by omega)), E1.tr E2 (fun j q => by unfold jLo; omega) (fun j q => by unfold jLo; omega)⟩
            · unfold upd va_up
              by_cases e : q = r
              · rw [if_pos e, if_pos e]; exact (cLane_n (by omega)).symm
              · rw [if_neg e, if_neg e]; exact dL q hq
            · unfold va_up
              by_cases e : q = r
              · rw [if_pos e, if_pos e]
              · rw [if_neg e, if_neg e]; exact dN q hq
            · dsimp only
              unfold va_up at hi
              rw [e5]
              by_cases e : q = r
              · rw [if_pos e] at hi
                rw [if_pos (by omega), if_pos e]
              · rw [if_neg e] at hi
                rw [if_neg (by have := g1 q hq; omega), if_neg e]; exact dI q hq i hi) (fun z => z)
        · refine e_al0 dX6_row_29 ?_
          refine e_iconst (nI 4) dX6_row_30 (by decide) ?_
          refine e_cv dX6_row_31 vX6_68 (m_X6_found c1) (by decide) rfl rfl (Nat.le_of_ble_eq_true rfl) jBud0 rfl c1 ?_
          rintro _ h1 ⟨rfl, t1, E1⟩
          exact e_iret hX dX6_row_34 (by rw [sp_row, if_pos c_4, if_pos c_13, if_pos ((fa_le40 _).mp c_19), if_neg (fun q => c_26 ((fa_ge0 _).mpr q))]; exact ⟨rfl, c.st t1 E1, E1.mono (fun j q => by unfold jLo; omega)⟩) (fun z => z)
      · refine e_ldc dX6_row_22 kX6_67 ?_
        exact e_iret hX dX6_row_24 (by rw [sp_row, if_pos c_4, if_pos c_13, if_neg (fun q => c_19 ((fa_le40 _).mpr q))]; exact cAns.same c rfl) (fun z => z)
set_option maxRecDepth 100000 in
set_option maxHeartbeats 4000000 in
theorem c_drop {h : jH} {S : jS} (c : CI h S) (g : SG S) {r : Int32} : jM yX6_drop cX6_drop 2 (some .int) 2 none [.ref 0, .int r] h (cAns h (sp_drop r S)) := by
  obtain ⟨c1, ⟨d1, L, I, N, d2, d3, d4, dL, dN, dI⟩, -⟩ := id c
  obtain ⟨g0, g1, -⟩ := id g
  refine jM.ofF (by decide +kernel) rfl (Nat.le_of_ble_eq_true rfl) (fun X hX hI => ?_)
  show jV cX6_drop RX6 2 X none 0 [some (.ref 0), some (.int r)] [] h
  refine e_il1 dX6_drop_0 ?_
  refine e_cs dX6_drop_1 sX6_59 (m_X6_isRow) (by decide) rfl rfl (Nat.le_of_ble_eq_true rfl) jBud0 ?_
  rintro _ _ ⟨rfl, rfl⟩
  refine e_if_neB 10 dX6_drop_4 (by decide) (fun c_4 => ?_) (fun c_4 => ?_)
  · obtain ⟨r, -, hr, rfl⟩ := iR_of c_4 (by decide)
    have er : (nI r).toNatClampNeg = r := nI_clamp (by omega)
    have g1r := g1 r (by omega)
    refine e_al0 dX6_drop_10 ?_
    refine e_get dX6_drop_11 fX6_10 c1 rfl ?_
    refine e_il1 dX6_drop_14 ?_
    refine e_cv dX6_drop_15 vX6_79 (m_X4_isMissing d1 d2 d3 d4 (by omega)) (by decide) rfl rfl (Nat.le_of_ble_eq_true rfl) jBud0 rfl d1 ?_
    rintro _ _ ⟨rfl, rfl⟩
    refine e_if_eqB 27 dX6_drop_18 (by decide) (fun c_18 => ?_) (fun c_18 => ?_)
    · rw [dL r (by omega), cLane_3 g1r.1] at c_18
      refine e_al0 dX6_drop_27 ?_
      refine e_al0 dX6_drop_28 ?_
      refine e_get dX6_drop_29 fX6_10 c1 rfl ?_
      refine e_il1 dX6_drop_32 ?_
      refine e_cv dX6_drop_33 vX6_105 (m_X4_forget d1 d2 d3 d4 (by omega)) (by decide) rfl rfl (Nat.le_of_ble_eq_true rfl) jBud0 rfl d1 ?_
      rintro _ h1 ⟨rfl, hh⟩
      have E1 := jEq.hs hh (jEq.rf (h := h) (P := fun j => j = 2)) rfl
      refine e_cv dX6_drop_36 vX6_76 (m_X6_unfound (jhs hh c1 (by omega))) (by decide) rfl rfl (Nat.le_of_ble_eq_true rfl) jBud0 rfl (jhs hh c1 (by omega)) ?_
      rintro _ h2 ⟨rfl, t2, E2⟩
      exact e_iret hX dX6_drop_39 (by
        rw [sp_drop, if_pos c_4, er, if_neg c_18, dN r (by omega)]
        refine ⟨rfl, c.rows t2 ⟨E2.at (by omega) (jhs hh d1 (by omega)), _, _, _, E2.at (by omega) (jhs_at hh d2), E2.at (by omega) (jhs hh d3 (by omega)), E2.at (by omega) (jhs hh d4 (by omega)), fun q hq => ?_, dN, dI⟩ (E1.tr E2 (fun j q => by omega) (fun j q => by omega)), E1.tr E2 (fun j q => by unfold jLo; omega) (fun j q => by unfold jLo; omega)⟩
        unfold upd va_up
        by_cases e : q = r
        · rw [if_pos e, if_pos e]; rfl
        · rw [if_neg e, if_neg e]; exact dL q hq) (fun z => z)
    · rw [dL r (by omega), cLane_3 g1r.1] at c_18
      refine e_al0 dX6_drop_21 ?_
      refine e_iconst (nI 1) dX6_drop_22 (by decide) ?_
      refine e_cv dX6_drop_23 vX6_68 (m_X6_found c1) (by decide) rfl rfl (Nat.le_of_ble_eq_true rfl) jBud0 rfl c1 ?_
      rintro _ h1 ⟨rfl, t1, E1⟩
      exact e_iret hX dX6_drop_26 (by rw [sp_drop, if_pos c_4, er, if_pos c_18]; exact ⟨rfl, c.st t1 E1, E1.mono (fun j q => by unfold jLo; omega)⟩) (fun z => z)
  · refine e_ldc dX6_drop_7 kX6_67 ?_
    exact e_iret hX dX6_drop_9 (by rw [sp_drop, if_neg c_4]; exact cAns.same c rfl) (fun z => z)
set_option maxRecDepth 100000 in
set_option maxHeartbeats 4000000 in
theorem c_set {h : jH} {S : jS} (c : CI h S) (g : SG S) {r i v : Int32} : jM yX6_set cX6_set 4 (some .int) 2 none [.ref 0, .int r, .int i, .int v] h (cAns h (sp_set r i v S)) := by
  obtain ⟨c1, ⟨d1, L, I, N, d2, d3, d4, dL, dN, dI⟩, -⟩ := id c
  obtain ⟨g0, g1, -⟩ := id g
  refine jM.ofF (by decide +kernel) rfl (Nat.le_of_ble_eq_true rfl) (fun X hX hI => ?_)
  show jV cX6_set RX6 2 X none 0 [some (.ref 0), some (.int r), some (.int i), some (.int v)] [] h
  refine e_il1 dX6_set_0 ?_
  refine e_cs dX6_set_1 sX6_59 (m_X6_isRow) (by decide) rfl rfl (Nat.le_of_ble_eq_true rfl) jBud0 ?_
  rintro _ _ ⟨rfl, rfl⟩
  refine e_if_neB 10 dX6_set_4 (by decide) (fun c_4 => ?_) (fun c_4 => ?_)
  · obtain ⟨r, -, hr, rfl⟩ := iR_of c_4 (by decide)
    have er : (nI r).toNatClampNeg = r := nI_clamp (by omega)
    have g1r := g1 r (by omega)
    refine e_al0 dX6_set_10 ?_
    refine e_get dX6_set_11 fX6_10 c1 rfl ?_
    refine e_il1 dX6_set_14 ?_
    refine e_cv dX6_set_15 vX6_79 (m_X4_isMissing d1 d2 d3 d4 (by omega)) (by decide) rfl rfl (Nat.le_of_ble_eq_true rfl) jBud0 rfl d1 ?_
    rintro _ _ ⟨rfl, rfl⟩
    refine e_if_eqB 27 dX6_set_18 (by decide) (fun c_18 => ?_) (fun c_18 => ?_)
    · rw [dL r (by omega), cLane_3 g1r.1] at c_18
      refine e_al0 dX6_set_27 ?_
      refine e_get dX6_set_28 fX6_10 c1 rfl ?_
      refine e_il1 dX6_set_31 ?_
      refine e_il2 dX6_set_32 ?_
      refine e_iconst (nI 1) dX6_set_33 (by decide) ?_
      refine e_cv dX6_set_34 vX6_82 (m_X4_hasPlaces d1 d2 d3 d4 (by omega) (by rw [dN r (by omega)]; omega)) (by decide) rfl rfl (Nat.le_of_ble_eq_true rfl) jBud0 rfl d1 ?_
      rintro _ _ ⟨rfl, rfl⟩
      refine e_if_neB 46 dX6_set_37 (by decide) (fun c_37 => ?_) (fun c_37 => ?_)
      · have hN1 := iP1_iff.mp c_37
        rw [dN r (by omega)] at hN1
        obtain ⟨i, hi, rfl⟩ := iN_of hN1 (by omega)
        have ei : (nI i).toNatClampNeg = i := nI_clamp (by omega)
        refine e_al0 dX6_set_46 ?_
        refine e_al0 dX6_set_47 ?_
        refine e_get dX6_set_48 fX6_10 c1 rfl ?_
        refine e_il1 dX6_set_51 ?_
        refine e_il2 dX6_set_52 ?_
        refine e_il3 dX6_set_53 ?_
        refine e_cv dX6_set_54 vX6_85 (m_X4_put d1 d2 d3 d4 (by omega) (l := S.1.2.1 r) (by omega) (by rw [dL r (by omega)]; exact cLane_n c_18) (i := i) (by omega)) (by decide) rfl rfl (Nat.le_of_ble_eq_true rfl) jBud0 rfl d1 ?_
        rintro _ h1 ⟨rfl, hh⟩
        have E1 := jEq.hs hh (jEq.rf (h := h) (P := fun j => j = 4)) rfl
        refine e_cv dX6_set_57 vX6_76 (m_X6_unfound (jhs hh c1 (by omega))) (by decide) rfl rfl (Nat.le_of_ble_eq_true rfl) jBud0 rfl (jhs hh c1 (by omega)) ?_
        rintro _ h2 ⟨rfl, t2, E2⟩
        exact e_iret hX dX6_set_60 (by
          rw [sp_set, if_pos c_4, er, if_neg c_18, if_pos (iP1_iff.mp (by rw [← dN r (by omega)]; exact c_37)), ei]
          refine ⟨rfl, c.rows t2 ⟨E2.at (by omega) (jhs hh d1 (by omega)), _, _, _, E2.at (by omega) (jhs hh d2 (by omega)), E2.at (by omega) (jhs hh d3 (by omega)), E2.at (by omega) (jhs_at hh d4), dL, dN, fun q hq k hk => ?_⟩ (E1.tr E2 (fun j q => by omega) (fun j q => by omega)), E1.tr E2 (fun j q => by unfold jLo; omega) (fun j q => by unfold jLo; omega)⟩
          dsimp only
          unfold upd
          by_cases e : q = r ∧ k = i
          · rw [if_pos e, if_pos (by omega)]
          · rw [if_neg e, if_neg (by have := g1 q hq; omega)]; exact dI q hq k hk) (fun z => z)
      · refine e_al0 dX6_set_40 ?_
        refine e_iconst (nI 2) dX6_set_41 (by decide) ?_
        refine e_cv dX6_set_42 vX6_68 (m_X6_found c1) (by decide) rfl rfl (Nat.le_of_ble_eq_true rfl) jBud0 rfl c1 ?_
        rintro _ h1 ⟨rfl, t1, E1⟩
        exact e_iret hX dX6_set_45 (by rw [sp_set, if_pos c_4, er, if_neg c_18, if_neg (fun q => c_37 (by rw [dN r (by omega)]; exact iP1_iff.mpr q))]; exact ⟨rfl, c.st t1 E1, E1.mono (fun j q => by unfold jLo; omega)⟩) (fun z => z)
    · rw [dL r (by omega), cLane_3 g1r.1] at c_18
      refine e_al0 dX6_set_21 ?_
      refine e_iconst (nI 1) dX6_set_22 (by decide) ?_
      refine e_cv dX6_set_23 vX6_68 (m_X6_found c1) (by decide) rfl rfl (Nat.le_of_ble_eq_true rfl) jBud0 rfl c1 ?_
      rintro _ h1 ⟨rfl, t1, E1⟩
      exact e_iret hX dX6_set_26 (by rw [sp_set, if_pos c_4, er, if_pos c_18]; exact ⟨rfl, c.st t1 E1, E1.mono (fun j q => by unfold jLo; omega)⟩) (fun z => z)
  · refine e_ldc dX6_set_7 kX6_67 ?_
    exact e_iret hX dX6_set_9 (by rw [sp_set, if_neg c_4]; exact cAns.same c rfl) (fun z => z)
set_option maxRecDepth 100000 in
set_option maxHeartbeats 4000000 in
theorem c_copy {h : jH} {S : jS} (c : CI h S) (g : SG S) {a i b j n : Int32} : jM yX6_copy cX6_copy 6 (some .int) 2 none [.ref 0, .int a, .int i, .int b, .int j, .int n] h (cAns h (sp_copy a i b j n S)) := by
  obtain ⟨c1, ⟨d1, L, I, N, d2, d3, d4, dL, dN, dI⟩, -⟩ := id c
  obtain ⟨g0, g1, -⟩ := id g
  refine jM.ofF (by decide +kernel) rfl (Nat.le_of_ble_eq_true rfl) (fun X hX hI => ?_)
  show jV cX6_copy RX6 2 X none 0 [some (.ref 0), some (.int a), some (.int i), some (.int b), some (.int j), some (.int n)] [] h
  refine e_il1 dX6_copy_0 ?_
  refine e_cs dX6_copy_1 sX6_59 (m_X6_isRow) (by decide) rfl rfl (Nat.le_of_ble_eq_true rfl) jBud0 ?_
  rintro _ _ ⟨rfl, rfl⟩
  refine e_if_eqB 14 dX6_copy_4 (by decide) (fun c_4 => ?_) (fun c_4 => ?_)
  · refine e_ldc dX6_copy_14 kX6_67 ?_
    exact e_iret hX dX6_copy_16 (by rw [sp_copy, if_neg c_4]; exact cAns.same c rfl) (fun z => z)
  · refine e_il3 dX6_copy_7 ?_
    refine e_cs dX6_copy_8 sX6_59 (m_X6_isRow) (by decide) rfl rfl (Nat.le_of_ble_eq_true rfl) jBud0 ?_
    rintro _ _ ⟨rfl, rfl⟩
    refine e_if_neB 17 dX6_copy_11 (by decide) (fun c_11 => ?_) (fun c_11 => ?_)
    · obtain ⟨a, -, ha, rfl⟩ := iR_of c_4 (by decide)
      obtain ⟨b, -, hb, rfl⟩ := iR_of c_11 (by decide)
      have ea : (nI a).toNatClampNeg = a := nI_clamp (by omega)
      have eb : (nI b).toNatClampNeg = b := nI_clamp (by omega)
      have g1a := g1 a (by omega)
      have g1b := g1 b (by omega)
      refine e_al0 dX6_copy_17 ?_
      refine e_get dX6_copy_18 fX6_10 c1 rfl ?_
      refine e_il1 dX6_copy_21 ?_
      refine e_cv dX6_copy_22 vX6_79 (m_X4_isMissing d1 d2 d3 d4 (by omega)) (by decide) rfl rfl (Nat.le_of_ble_eq_true rfl) jBud0 rfl d1 ?_
      rintro _ _ ⟨rfl, rfl⟩
      refine e_if_neB 39 dX6_copy_25 (by decide) (fun c_25 => ?_) (fun c_25 => ?_)
      · rw [dL a (by omega), cLane_3 g1a.1] at c_25
        refine e_al0 dX6_copy_39 ?_
        refine e_iconst (nI 1) dX6_copy_40 (by decide) ?_
        refine e_cv dX6_copy_41 vX6_68 (m_X6_found c1) (by decide) rfl rfl (Nat.le_of_ble_eq_true rfl) jBud0 rfl c1 ?_
        rintro _ h1 ⟨rfl, t1, E1⟩
        exact e_iret hX dX6_copy_44 (by rw [sp_copy, if_pos c_4, if_pos c_11, ea, eb, if_pos c_25]; exact ⟨rfl, c.st t1 E1, E1.mono (fun j q => by unfold jLo; omega)⟩) (fun z => z)
      · rw [dL a (by omega), cLane_3 g1a.1] at c_25
        refine e_al0 dX6_copy_28 ?_
        refine e_get dX6_copy_29 fX6_10 c1 rfl ?_
        refine e_il3 dX6_copy_32 ?_
        refine e_cv dX6_copy_33 vX6_79 (m_X4_isMissing d1 d2 d3 d4 (by omega)) (by decide) rfl rfl (Nat.le_of_ble_eq_true rfl) jBud0 rfl d1 ?_
        rintro _ _ ⟨rfl, rfl⟩
        refine e_if_eqB 45 dX6_copy_36 (by decide) (fun c_36 => ?_) (fun c_36 => ?_)
        · rw [dL b (by omega), cLane_3 g1b.1] at c_36
          refine e_al0 dX6_copy_45 ?_
          refine e_get dX6_copy_46 fX6_10 c1 rfl ?_
          refine e_get dX6_copy_49 fX6_89 d1 rfl ?_
          refine e_il1 dX6_copy_52 ?_
          refine e_ialdI dX6_copy_53 d2 (by omega) (by decide) ?_
          refine e_al0 dX6_copy_54 ?_
          refine e_get dX6_copy_55 fX6_10 c1 rfl ?_
          refine e_get dX6_copy_58 fX6_89 d1 rfl ?_
          refine e_il3 dX6_copy_61 ?_
          refine e_ialdI dX6_copy_62 d2 (by omega) (by decide) ?_
          refine e_ic_eq 72 dX6_copy_63 (by decide) (fun c_63 => ?_) (fun c_63 => ?_)
          · rw [dL a (by omega), dL b (by omega), cLane_inj g1a.1 g1b.1] at c_63
            refine e_al0 dX6_copy_72 ?_
            refine e_get dX6_copy_73 fX6_10 c1 rfl ?_
            refine e_il1 dX6_copy_76 ?_
            refine e_il2 dX6_copy_77 ?_
            refine e_il5 dX6_copy_78 ?_
            refine e_cv dX6_copy_80 vX6_82 (m_X4_hasPlaces d1 d2 d3 d4 (by omega) (by rw [dN a (by omega)]; omega)) (by decide) rfl rfl (Nat.le_of_ble_eq_true rfl) jBud0 rfl d1 ?_
            rintro _ _ ⟨rfl, rfl⟩
            refine e_if_eqB 101 dX6_copy_83 (by decide) (fun c_83 => ?_) (fun c_83 => ?_)
            · refine e_al0 dX6_copy_101 ?_
              refine e_iconst (nI 2) dX6_copy_102 (by decide) ?_
              refine e_cv dX6_copy_103 vX6_68 (m_X6_found c1) (by decide) rfl rfl (Nat.le_of_ble_eq_true rfl) jBud0 rfl c1 ?_
              rintro _ h1 ⟨rfl, t1, E1⟩
              exact e_iret hX dX6_copy_106 (by rw [sp_copy, if_pos c_4, if_pos c_11, ea, eb, if_neg c_25, if_neg c_36, if_pos c_63, if_neg (by rw [← dN a (by omega)]; exact c_83)]; exact ⟨rfl, c.st t1 E1, E1.mono (fun j q => by unfold jLo; omega)⟩) (fun z => z)
            · refine e_al0 dX6_copy_86 ?_
              refine e_get dX6_copy_87 fX6_10 c1 rfl ?_
              refine e_il3 dX6_copy_90 ?_
              refine e_il4 dX6_copy_91 ?_
              refine e_il5 dX6_copy_93 ?_
              refine e_cv dX6_copy_95 vX6_82 (m_X4_hasPlaces d1 d2 d3 d4 (by omega) (by rw [dN b (by omega)]; omega)) (by decide) rfl rfl (Nat.le_of_ble_eq_true rfl) jBud0 rfl d1 ?_
              rintro _ _ ⟨rfl, rfl⟩
              refine e_if_neB 107 dX6_copy_98 (by decide) (fun c_98 => ?_) (fun c_98 => ?_)
              · have ha1 := c_83
                have hb1 := c_98
                rw [dN a (by omega)] at ha1
                rw [dN b (by omega)] at hb1
                obtain ⟨i, n, hin, rfl, rfl⟩ := iP_of ha1 (by omega)
                obtain ⟨j, n', hjn, rfl, en'⟩ := iP_of hb1 (by omega)
                have en2 : n = n' := (nI_eq (by omega) (by omega)).mp en'
                subst en2
                have ei : (nI i).toNatClampNeg = i := nI_clamp (by omega)
                have ej : (nI j).toNatClampNeg = j := nI_clamp (by omega)
                have en : (nI n).toNatClampNeg = n := nI_clamp (by omega)
                refine e_al0 dX6_copy_107 ?_
                refine e_get dX6_copy_108 fX6_10 c1 rfl ?_
                refine e_get dX6_copy_111 fX6_93 d1 rfl ?_
                refine e_il1 dX6_copy_114 ?_
                refine e_cs dX6_copy_115 sX6_96 (m_X4_start) (by decide) rfl rfl (Nat.le_of_ble_eq_true rfl) jBud0 ?_
                rintro _ _ ⟨rfl, rfl⟩
                refine e_il2 dX6_copy_118 ?_
                refine e_iaddN dX6_copy_119 ?_
                refine e_al0 dX6_copy_120 ?_
                refine e_get dX6_copy_121 fX6_10 c1 rfl ?_
                refine e_get dX6_copy_124 fX6_93 d1 rfl ?_
                refine e_il3 dX6_copy_127 ?_
                refine e_cs dX6_copy_128 sX6_96 (m_X4_start) (by decide) rfl rfl (Nat.le_of_ble_eq_true rfl) jBud0 ?_
                rintro _ _ ⟨rfl, rfl⟩
                refine e_il4 dX6_copy_131 ?_
                refine e_iaddN dX6_copy_133 ?_
                refine e_il5 dX6_copy_134 ?_
                refine e_copy dX6_copy_136 aX6_99 w_acopy d4 d4 (nI_pos (by omega)) (nI_pos (by omega)) (nI_pos (by omega)) (by rw [nI_clamp (by omega), nI_clamp (by omega)]; omega) (by rw [nI_clamp (by omega), nI_clamp (by omega)]; omega) (by decide) (Nat.le_of_ble_eq_true rfl) ?_
                refine e_abs (fun h1 hh => ?_)
                have E1 := jEq.hs hh (jEq.rf (h := h) (P := fun j => j = 4)) rfl
                refine e_al0 dX6_copy_139 ?_
                refine e_il5 dX6_copy_140 ?_
                refine e_cv dX6_copy_142 vX6_76 (m_X6_unfound (jhs hh c1 (by omega))) (by decide) rfl rfl (Nat.le_of_ble_eq_true rfl) jBud0 rfl (jhs hh c1 (by omega)) ?_
                rintro _ h2 ⟨rfl, t2, E2⟩
                exact e_iret hX dX6_copy_145 (by
                  rw [sp_copy, if_pos c_4, if_pos c_11, ea, eb, if_neg c_25, if_neg c_36, if_pos c_63, if_pos (by rw [← dN a (by omega)]; exact c_83), if_pos (by rw [← dN b (by omega)]; exact c_98), ei, ej, en]
                  refine ⟨rfl, c.rows t2 ⟨E2.at (by omega) (jhs hh d1 (by omega)), _, _, _, E2.at (by omega) (jhs hh d2 (by omega)), E2.at (by omega) (jhs hh d3 (by omega)), E2.at (by omega) (jhs_at hh d4), dL, dN, fun q hq k hk => ?_⟩ (E1.tr E2 (fun j q => by omega) (fun j q => by omega)), E1.tr E2 (fun j q => by unfold jLo; omega) (fun j q => by unfold jLo; omega)⟩
                  dsimp only
                  rw [nI_clamp (by omega), nI_clamp (by omega)]
                  unfold va_cpy
                  have g1q := g1 q hq
                  by_cases e : q = b ∧ j ≤ k ∧ k < j + n
                  · rw [if_pos e, if_pos (by omega), ← dI a (by omega) _ (by omega)]
                    congr 1
                    omega
                  · rw [if_neg e, if_neg (by omega)]; exact dI q hq k hk) (fun z => z)
              · refine e_al0 dX6_copy_101 ?_
                refine e_iconst (nI 2) dX6_copy_102 (by decide) ?_
                refine e_cv dX6_copy_103 vX6_68 (m_X6_found c1) (by decide) rfl rfl (Nat.le_of_ble_eq_true rfl) jBud0 rfl c1 ?_
                rintro _ h1 ⟨rfl, t1, E1⟩
                exact e_iret hX dX6_copy_106 (by rw [sp_copy, if_pos c_4, if_pos c_11, ea, eb, if_neg c_25, if_neg c_36, if_pos c_63, if_pos (by rw [← dN a (by omega)]; exact c_83), if_neg (by rw [← dN b (by omega)]; exact c_98)]; exact ⟨rfl, c.st t1 E1, E1.mono (fun j q => by unfold jLo; omega)⟩) (fun z => z)
          · rw [dL a (by omega), dL b (by omega), cLane_inj g1a.1 g1b.1] at c_63
            refine e_al0 dX6_copy_66 ?_
            refine e_iconst (nI 5) dX6_copy_67 (by decide) ?_
            refine e_cv dX6_copy_68 vX6_68 (m_X6_found c1) (by decide) rfl rfl (Nat.le_of_ble_eq_true rfl) jBud0 rfl c1 ?_
            rintro _ h1 ⟨rfl, t1, E1⟩
            exact e_iret hX dX6_copy_71 (by rw [sp_copy, if_pos c_4, if_pos c_11, ea, eb, if_neg c_25, if_neg c_36, if_neg c_63]; exact ⟨rfl, c.st t1 E1, E1.mono (fun j q => by unfold jLo; omega)⟩) (fun z => z)
        · rw [dL b (by omega), cLane_3 g1b.1] at c_36
          refine e_al0 dX6_copy_39 ?_
          refine e_iconst (nI 1) dX6_copy_40 (by decide) ?_
          refine e_cv dX6_copy_41 vX6_68 (m_X6_found c1) (by decide) rfl rfl (Nat.le_of_ble_eq_true rfl) jBud0 rfl c1 ?_
          rintro _ h1 ⟨rfl, t1, E1⟩
          exact e_iret hX dX6_copy_44 (by rw [sp_copy, if_pos c_4, if_pos c_11, ea, eb, if_neg c_25, if_pos c_36]; exact ⟨rfl, c.st t1 E1, E1.mono (fun j q => by unfold jLo; omega)⟩) (fun z => z)
    · refine e_ldc dX6_copy_14 kX6_67 ?_
      exact e_iret hX dX6_copy_16 (by rw [sp_copy, if_pos c_4, if_neg c_11]; exact cAns.same c rfl) (fun z => z)
set_option maxRecDepth 100000 in
set_option maxHeartbeats 4000000 in
theorem r_drop {h : jH} {S : jS} (c : RI h S) (g : SG S) {r : Int32} : jM yX7_drop cX7_drop 2 (some .int) 2 none [.ref 218, .int r] h (rAns h (sp_drop r S)) := by
  obtain ⟨⟨s, hO, s0, hs⟩, ⟨L, I, Sp, N, d1, d2, d3, d4, dL, dN, dI⟩, -⟩ := id c
  obtain ⟨g0, g1, -⟩ := id g
  refine jM.ofF (by decide +kernel) rfl (Nat.le_of_ble_eq_true rfl) (fun X hX hI => ?_)
  show jV cX7_drop RX7 2 X none 0 [some (.ref 218), some (.int r)] [] h
  refine e_il1 dX7_drop_0 ?_
  refine e_cs dX7_drop_1 sX7_69 (m_X7_isRow) (by decide) rfl rfl (Nat.le_of_ble_eq_true rfl) jBud0 ?_
  rintro _ _ ⟨rfl, rfl⟩
  refine e_if_neB 10 dX7_drop_4 (by decide) (fun c_4 => ?_) (fun c_4 => ?_)
  · obtain ⟨r, -, hr, rfl⟩ := iR_of c_4 (by decide)
    have er : (nI r).toNatClampNeg = r := nI_clamp (by omega)
    have g1r := g1 r (by omega)
    refine e_al0 dX7_drop_10 ?_
    refine e_il1 dX7_drop_11 ?_
    refine e_cv dX7_drop_12 vX7_81 (m_X7_isMissing hO d1 (by omega)) (by decide) rfl rfl (Nat.le_of_ble_eq_true rfl) jBud0 rfl hO ?_
    rintro _ _ ⟨rfl, rfl⟩
    refine e_if_eqB 24 dX7_drop_15 (by decide) (fun c_15 => ?_) (fun c_15 => ?_)
    · rw [dL r (by omega), rLane_3 g1r.1] at c_15
      refine e_al0 dX7_drop_24 ?_
      refine e_get dX7_drop_25 fX7_7 hO rfl ?_
      refine e_il1 dX7_drop_28 ?_
      refine e_ldc dX7_drop_29 kX7_59 ?_
      refine e_iastI dX7_drop_31 d1 (by omega) (by decide) ?_
      refine e_abs (fun h1 hh => ?_)
      replace hO := jhs hh hO (by omega)
      replace d1 := jhs_at hh d1
      replace d2 := jhs hh d2 (by omega)
      replace d3 := jhs hh d3 (by omega)
      replace d4 := jhs hh d4 (by omega)
      have E := jEq.hs hh (jEq.rf (h := h) (P := fun j => 218 ≤ j ∧ j < 223)) ⟨by omega, by omega⟩
      clear hh
      refine e_al0 dX7_drop_32 ?_
      refine e_al0 dX7_drop_33 ?_
      refine e_get dX7_drop_34 fX7_13 hO rfl ?_
      refine e_il1 dX7_drop_37 ?_
      refine e_ialdN dX7_drop_38 d2 (by omega) (by decide) ?_
      refine e_cv dX7_drop_39 vX7_78 (m_X7_well hO) (by decide) rfl rfl (Nat.le_of_ble_eq_true rfl) jBud0 rfl hO ?_
      rintro _ h2 ⟨rfl, t2, E2⟩
      exact e_iret hX dX7_drop_42 (by
        rw [sp_drop, if_pos c_4, er, if_neg c_15, dN r (by omega)]
        refine ⟨rfl, c.rows hs t2 ⟨_, _, _, _, E2.at (by omega) d1, E2.at (by omega) d2, E2.at (by omega) d3, E2.at (by omega) d4, fun q hq => ?_, dN, dI⟩ (E.tr E2 (fun j q => by omega) (fun j q => by omega)), E.tr E2 (fun j q => by unfold jHi; omega) (fun j q => by unfold jHi; omega)⟩
        unfold upd va_up
        by_cases e : q = r
        · rw [if_pos e, if_pos e]; rfl
        · rw [if_neg e, if_neg e]; exact dL q hq) (fun z => z)
    · rw [dL r (by omega), rLane_3 g1r.1] at c_15
      refine e_al0 dX7_drop_18 ?_
      refine e_iconst (nI 1) dX7_drop_19 (by decide) ?_
      refine e_cv dX7_drop_20 vX7_74 (m_X7_found hO) (by decide) rfl rfl (Nat.le_of_ble_eq_true rfl) jBud0 rfl hO ?_
      rintro _ h1 ⟨rfl, t1, E1⟩
      exact e_iret hX dX7_drop_23 (by rw [sp_drop, if_pos c_4, er, if_pos c_15]; exact ⟨rfl, c.st hs t1 E1, E1.mono (fun j q => by unfold jHi; omega)⟩) (fun z => z)
  · refine e_ldc dX7_drop_7 kX7_73 ?_
    exact e_iret hX dX7_drop_9 (by rw [sp_drop, if_neg c_4]; exact rAns.same c rfl) (fun z => z)
set_option maxRecDepth 100000 in
set_option maxHeartbeats 4000000 in
theorem r_set {h : jH} {S : jS} (c : RI h S) (g : SG S) {r i v : Int32} : jM yX7_set cX7_set 4 (some .int) 2 none [.ref 218, .int r, .int i, .int v] h (rAns h (sp_set r i v S)) := by
  obtain ⟨⟨s, hO, s0, hs⟩, ⟨L, I, Sp, N, d1, d2, d3, d4, dL, dN, dI⟩, -⟩ := id c
  obtain ⟨g0, g1, -⟩ := id g
  refine jM.ofF (by decide +kernel) rfl (Nat.le_of_ble_eq_true rfl) (fun X hX hI => ?_)
  show jV cX7_set RX7 2 X none 0 [some (.ref 218), some (.int r), some (.int i), some (.int v)] [] h
  refine e_il1 dX7_set_0 ?_
  refine e_cs dX7_set_1 sX7_69 (m_X7_isRow) (by decide) rfl rfl (Nat.le_of_ble_eq_true rfl) jBud0 ?_
  rintro _ _ ⟨rfl, rfl⟩
  refine e_if_neB 10 dX7_set_4 (by decide) (fun c_4 => ?_) (fun c_4 => ?_)
  · obtain ⟨r, -, hr, rfl⟩ := iR_of c_4 (by decide)
    have er : (nI r).toNatClampNeg = r := nI_clamp (by omega)
    have g1r := g1 r (by omega)
    refine e_al0 dX7_set_10 ?_
    refine e_il1 dX7_set_11 ?_
    refine e_cv dX7_set_12 vX7_81 (m_X7_isMissing hO d1 (by omega)) (by decide) rfl rfl (Nat.le_of_ble_eq_true rfl) jBud0 rfl hO ?_
    rintro _ _ ⟨rfl, rfl⟩
    refine e_if_eqB 24 dX7_set_15 (by decide) (fun c_15 => ?_) (fun c_15 => ?_)
    · rw [dL r (by omega), rLane_3 g1r.1] at c_15
      refine e_il2 dX7_set_24 ?_
      refine e_iconst (nI 0) dX7_set_25 (by decide) ?_
      refine e_al0 dX7_set_26 ?_
      refine e_get dX7_set_27 fX7_13 hO rfl ?_
      refine e_il1 dX7_set_30 ?_
      refine e_ialdN dX7_set_31 d2 (by omega) (by decide) ?_
      refine e_iconst (nI 1) dX7_set_32 (by decide) ?_
      refine e_isub dX7_set_33 ?_
      refine e_cs dX7_set_34 sX7_65 (m_X7_inN (by rw [dN r (by omega)]; omega)) (by decide) rfl rfl (Nat.le_of_ble_eq_true rfl) jBud0 ?_
      rintro _ _ ⟨rfl, rfl⟩
      refine e_if_neB 46 dX7_set_37 (by decide) (fun c_37 => ?_) (fun c_37 => ?_)
      · have hN1 := c_37
        rw [dN r (by omega)] at hN1
        obtain ⟨i, hi, rfl⟩ := iN_of hN1 (by omega)
        have ei : (nI i).toNatClampNeg = i := nI_clamp (by omega)
        refine e_al0 dX7_set_46 ?_
        refine e_get dX7_set_47 fX7_16 hO rfl ?_
        refine e_bipush (nI 40) dX7_set_50 (by decide) ?_
        refine e_il1 dX7_set_52 ?_
        refine e_imulN dX7_set_53 ?_
        refine e_il2 dX7_set_54 ?_
        refine e_iaddN dX7_set_55 ?_
        refine e_al0 dX7_set_56 ?_
        refine e_get dX7_set_57 fX7_7 hO rfl ?_
        refine e_il1 dX7_set_60 ?_
        refine e_ialdI dX7_set_61 d1 (by omega) (by decide) ?_
        rw [dL r (by omega), rLane_n c_15]
        refine e_il3 dX7_set_62 ?_
        refine e_cs dX7_set_63 sX7_84 (m_X7_cut (l := S.1.2.1 r) (by omega)) (by decide) rfl rfl (Nat.le_of_ble_eq_true rfl) jBud0 ?_
        rintro _ _ ⟨rfl, rfl⟩
        refine e_iastI dX7_set_66 d3 (by omega) (by decide) ?_
        refine e_abs (fun h1 hh => ?_)
        replace hO := jhs hh hO (by omega)
        replace d1 := jhs hh d1 (by omega)
        replace d2 := jhs hh d2 (by omega)
        replace d3 := jhs_at hh d3
        replace d4 := jhs hh d4 (by omega)
        have E := jEq.hs hh (jEq.rf (h := h) (P := fun j => 218 ≤ j ∧ j < 223)) ⟨by omega, by omega⟩
        clear hh
        refine e_al0 dX7_set_67 ?_
        refine e_al0 dX7_set_68 ?_
        refine e_get dX7_set_69 fX7_16 hO rfl ?_
        refine e_bipush (nI 40) dX7_set_72 (by decide) ?_
        refine e_il1 dX7_set_74 ?_
        refine e_imulN dX7_set_75 ?_
        refine e_il2 dX7_set_76 ?_
        refine e_iaddN dX7_set_77 ?_
        refine e_ialdI dX7_set_78 d3 (by omega) (by decide) ?_
        refine e_cv dX7_set_79 vX7_78 (m_X7_well hO) (by decide) rfl rfl (Nat.le_of_ble_eq_true rfl) jBud0 rfl hO ?_
        rintro _ h2 ⟨rfl, t2, E2⟩
        exact e_iret hX dX7_set_82 (by
          rw [sp_set, if_pos c_4, er, if_neg c_15, if_pos (by rw [← dN r (by omega)]; exact c_37), ei]
          refine ⟨by rw [upd, if_pos rfl], c.rows hs t2 ⟨_, _, _, _, E2.at (by omega) d1, E2.at (by omega) d2, E2.at (by omega) d3, E2.at (by omega) d4, dL, dN, fun q hq k hk => ?_⟩ (E.tr E2 (fun j q => by omega) (fun j q => by omega)), E.tr E2 (fun j q => by unfold jHi; omega) (fun j q => by unfold jHi; omega)⟩
          dsimp only
          unfold upd
          by_cases e : q = r ∧ k = i
          · rw [if_pos e, if_pos (by omega)]
          · rw [if_neg e, if_neg (by have := g1 q hq; omega)]; exact dI q hq k hk) (fun z => z)
      · refine e_al0 dX7_set_40 ?_
        refine e_iconst (nI 2) dX7_set_41 (by decide) ?_
        refine e_cv dX7_set_42 vX7_74 (m_X7_found hO) (by decide) rfl rfl (Nat.le_of_ble_eq_true rfl) jBud0 rfl hO ?_
        rintro _ h1 ⟨rfl, t1, E1⟩
        exact e_iret hX dX7_set_45 (by rw [sp_set, if_pos c_4, er, if_neg c_15, if_neg (by rw [← dN r (by omega)]; exact c_37)]; exact ⟨rfl, c.st hs t1 E1, E1.mono (fun j q => by unfold jHi; omega)⟩) (fun z => z)
    · rw [dL r (by omega), rLane_3 g1r.1] at c_15
      refine e_al0 dX7_set_18 ?_
      refine e_iconst (nI 1) dX7_set_19 (by decide) ?_
      refine e_cv dX7_set_20 vX7_74 (m_X7_found hO) (by decide) rfl rfl (Nat.le_of_ble_eq_true rfl) jBud0 rfl hO ?_
      rintro _ h1 ⟨rfl, t1, E1⟩
      exact e_iret hX dX7_set_23 (by rw [sp_set, if_pos c_4, er, if_pos c_15]; exact ⟨rfl, c.st hs t1 E1, E1.mono (fun j q => by unfold jHi; omega)⟩) (fun z => z)
  · refine e_ldc dX7_set_7 kX7_73 ?_
    exact e_iret hX dX7_set_9 (by rw [sp_set, if_neg c_4]; exact rAns.same c rfl) (fun z => z)
set_option maxRecDepth 100000 in
set_option maxHeartbeats 4000000 in
theorem lp_X7_row {h0 : jH} {S : jS} (c : RI h0 S) (g : SG S) {s : Nat → Int32} (hs : s 1 = nI S.2.1.1 ∧ s 2 = nI S.2.1.2.2 ∧ s 8 = nI S.2.2.2.1.1 ∧ s 9 = nI S.2.2.2.2.2.1) {L I : Nat → Int32} {N : Nat → Nat} (dL : ∀ r, r < 8 → L r = rLane (S.1.2.1 r)) (dN : ∀ r, r < 8 → N r = S.1.2.2.1 r) (dI : ∀ r, r < 8 → ∀ i, i < S.1.2.2.1 r → I (40 * r + i) = S.1.2.2.2 r i) {r l m : Nat} (hr : r < 8) (hl : l ≤ 2) (hm40 : m ≤ 40) (hsp : sp_row (nI r) (nI l) (nI m) S = (nI m, ((0, va_up S.1.2.1 r l, va_up S.1.2.2.1 r m, fun q i => if q = r then 0 else S.1.2.2.2 q i), S.2))) {X : jX} (hX : jRet X (some .int) none (rAns h0 (sp_row (nI r) (nI l) (nI m) S))) : ∀ (n i : Nat) (h : jH) (I' : Nat → Int32) {Sp : Nat → Int32}, 40 - i < n → i ≤ 40 → RO h s → h[219]? = some (jI 8 (upd L r (nI l))) → h[220]? = some (jN 8 (va_up N r m)) → h[221]? = some (jI 320 I') → h[222]? = some (jI 40 Sp) → (∀ k, I' k = if 40 * r ≤ k ∧ k < 40 * r + i then 0 else I k) → jEq h0 h (fun j => 218 ≤ j ∧ j < 223) → jV cX7_row RX7 2 X none 52 [some (.ref 218), some (.int (nI r)), some (.int (nI l)), some (.int (nI m)), some (.int (nI i))] [] h := by
  obtain ⟨g0, g1, -⟩ := id g
  intro n
  induction n with
  | zero => intros; omega
  | succ n ih =>
    intro i h I' Sp hm hi hO d1 d2 d3 d4 hI E
    refine e_il4 dX7_row_52 ?_
    refine e_bipush (nI 40) dX7_row_54 (by decide) ?_
    refine e_ic_geN 78 dX7_row_56 (by decide) (by omega) (by omega) (fun c_56 => ?_) (fun c_56 => ?_)
    · refine e_al0 dX7_row_78 ?_
      refine e_il3 dX7_row_79 ?_
      refine e_cv dX7_row_80 vX7_78 (m_X7_well hO) (by decide) rfl rfl (Nat.le_of_ble_eq_true rfl) jBud0 rfl hO ?_
      rintro _ h2 ⟨rfl, t2, E2⟩
      exact e_iret hX dX7_row_83 (by
        rw [hsp]
        refine ⟨rfl, c.rows hs t2 ⟨_, _, _, _, E2.at (by omega) d1, E2.at (by omega) d2, E2.at (by omega) d3, E2.at (by omega) d4, fun q hq => ?_, fun q hq => ?_, fun q hq k hk => ?_⟩ (E.tr E2 (fun j q => by omega) (fun j q => by omega)), E.tr E2 (fun j q => by unfold jHi; omega) (fun j q => by unfold jHi; omega)⟩
        · unfold upd va_up
          by_cases e : q = r
          · rw [if_pos e, if_pos e]; exact (rLane_n (by omega)).symm
          · rw [if_neg e, if_neg e]; exact dL q hq
        · unfold va_up
          by_cases e : q = r
          · rw [if_pos e, if_pos e]
          · rw [if_neg e, if_neg e]; exact dN q hq
        · dsimp only
          unfold va_up at hk
          rw [hI]
          by_cases e : q = r
          · rw [if_pos e] at hk
            rw [if_pos (by omega), if_pos e]
          · rw [if_neg e] at hk
            rw [if_neg (by have := g1 q hq; omega), if_neg e]; exact dI q hq k hk) (fun z => z)
    · refine e_al0 dX7_row_59 ?_
      refine e_get dX7_row_60 fX7_16 hO rfl ?_
      refine e_bipush (nI 40) dX7_row_63 (by decide) ?_
      refine e_il1 dX7_row_65 ?_
      refine e_imulN dX7_row_66 ?_
      refine e_il4 dX7_row_67 ?_
      refine e_iaddN dX7_row_69 ?_
      refine e_iconst (nI 0) dX7_row_70 (by decide) ?_
      refine e_iastI dX7_row_71 d3 (by omega) (by decide) ?_
      refine e_abs (fun h1 hh => ?_)
      replace hO := jhs hh hO (by omega)
      replace d1 := jhs hh d1 (by omega)
      replace d2 := jhs hh d2 (by omega)
      replace d3 := jhs_at hh d3
      replace d4 := jhs hh d4 (by omega)
      replace E := jEq.hs hh E ⟨by omega, by omega⟩
      clear hh
      refine e_inc4N dX7_row_72 rfl ?_
      refine e_goto 52 dX7_row_75 (by decide) ?_
      refine ih (i + 1) _ _ (by omega) (by omega) hO d1 d2 d3 d4 (fun k => ?_) E
      unfold upd
      by_cases q : k = 40 * r + i
      · rw [if_pos q, if_pos (by omega)]; rfl
      · rw [if_neg q, hI k]
        by_cases q2 : 40 * r ≤ k ∧ k < 40 * r + i
        · rw [if_pos q2, if_pos (by omega)]
        · rw [if_neg q2, if_neg (by omega)]
set_option maxRecDepth 100000 in
set_option maxHeartbeats 4000000 in
theorem r_row {h : jH} {S : jS} (c : RI h S) (g : SG S) {r l n : Int32} : jM yX7_row cX7_row 5 (some .int) 2 none [.ref 218, .int r, .int l, .int n] h (rAns h (sp_row r l n S)) := by
  obtain ⟨⟨s, hO, s0, hs⟩, ⟨L, I, Sp, N, d1, d2, d3, d4, dL, dN, dI⟩, -⟩ := id c
  obtain ⟨g0, g1, -⟩ := id g
  refine jM.ofF (by decide +kernel) rfl (Nat.le_of_ble_eq_true rfl) (fun X hX hI => ?_)
  show jV cX7_row RX7 2 X none 0 [some (.ref 218), some (.int r), some (.int l), some (.int n), none] [] h
  refine e_il1 dX7_row_0 ?_
  refine e_cs dX7_row_1 sX7_69 (m_X7_isRow) (by decide) rfl rfl (Nat.le_of_ble_eq_true rfl) jBud0 ?_
  rintro _ _ ⟨rfl, rfl⟩
  refine e_if_eqB 22 dX7_row_4 (by decide) (fun c_4 => ?_) (fun c_4 => ?_)
  · refine e_ldc dX7_row_22 kX7_73 ?_
    exact e_iret hX dX7_row_24 (by rw [sp_row, if_neg c_4]; exact rAns.same c rfl) (fun z => z)
  · refine e_il2 dX7_row_7 ?_
    refine e_iconst (nI 0) dX7_row_8 (by decide) ?_
    refine e_iconst (nI 2) dX7_row_9 (by decide) ?_
    refine e_cs dX7_row_10 sX7_65 (m_X7_inR (by decide) (by decide)) (by decide) rfl rfl (Nat.le_of_ble_eq_true rfl) jBud0 ?_
    rintro _ _ ⟨rfl, rfl⟩
    refine e_if_eqB 22 dX7_row_13 (by decide) (fun c_13 => ?_) (fun c_13 => ?_)
    · refine e_ldc dX7_row_22 kX7_73 ?_
      exact e_iret hX dX7_row_24 (by rw [sp_row, if_pos c_4, if_neg c_13]; exact rAns.same c rfl) (fun z => z)
    · refine e_il3 dX7_row_16 ?_
      refine e_bipush (nI 40) dX7_row_17 (by decide) ?_
      refine e_ic_le 25 dX7_row_19 (by decide) (fun c_19 => ?_) (fun c_19 => ?_)
      · refine e_il3 dX7_row_25 ?_
        refine e_if_ge 35 dX7_row_26 (by decide) (fun c_26 => ?_) (fun c_26 => ?_)
        · refine e_al0 dX7_row_35 ?_
          refine e_get dX7_row_36 fX7_7 hO rfl ?_
          have em0 : 0 ≤ n.toInt := (fa_ge0 _).mp c_26
          have em1 : n.toInt ≤ 40 := (fa_le40 _).mp c_19
          obtain ⟨r, -, hr, rfl⟩ := iR_of c_4 (by decide)
          obtain ⟨l, -, hl, rfl⟩ := iR_of c_13 (by decide)
          obtain ⟨m, hm, rfl⟩ := n_nat (m := 40) em0 em1 (by decide)
          have er : (nI r).toNatClampNeg = r := nI_clamp (by omega)
          have el : (nI l).toNatClampNeg = l := nI_clamp (by omega)
          have em : (nI m).toNatClampNeg = m := nI_clamp (by omega)
          have hsp : sp_row (nI r) (nI l) (nI m) S = (nI m, ((0, va_up S.1.2.1 r l, va_up S.1.2.2.1 r m, fun q i => if q = r then 0 else S.1.2.2.2 q i), S.2)) := by
            rw [sp_row, if_pos c_4, if_pos c_13, if_pos ((fa_le40 _).mp c_19), if_pos ((fa_ge0 _).mp c_26), er, el, em]
          refine e_il1 dX7_row_39 ?_
          refine e_il2 dX7_row_40 ?_
          refine e_iastI dX7_row_41 d1 (by omega) (by decide) ?_
          refine e_abs (fun h1 hh => ?_)
          replace hO := jhs hh hO (by omega)
          replace d1 := jhs_at hh d1
          replace d2 := jhs hh d2 (by omega)
          replace d3 := jhs hh d3 (by omega)
          replace d4 := jhs hh d4 (by omega)
          have E := jEq.hs hh (jEq.rf (h := h) (P := fun j => 218 ≤ j ∧ j < 223)) ⟨by omega, by omega⟩
          clear hh
          refine e_al0 dX7_row_42 ?_
          refine e_get dX7_row_43 fX7_13 hO rfl ?_
          refine e_il1 dX7_row_46 ?_
          refine e_il3 dX7_row_47 ?_
          refine e_iastN dX7_row_48 d2 (by omega) (by decide) ?_
          refine e_abs (fun h2 hh => ?_)
          replace hO := jhs hh hO (by omega)
          replace d1 := jhs hh d1 (by omega)
          replace d2 := jhs_at hh d2
          replace d3 := jhs hh d3 (by omega)
          replace d4 := jhs hh d4 (by omega)
          replace E := jEq.hs hh E ⟨by omega, by omega⟩
          clear hh
          refine e_iconst (nI 0) dX7_row_49 (by decide) ?_
          refine e_is4 dX7_row_50 rfl ?_
          exact lp_X7_row c g hs dL dN dI (by omega) hl hm hsp hX 41 0 _ I (by omega) (by omega) hO d1 d2 d3 d4 (fun k => by rw [if_neg (by omega)]) E
        · refine e_al0 dX7_row_29 ?_
          refine e_iconst (nI 4) dX7_row_30 (by decide) ?_
          refine e_cv dX7_row_31 vX7_74 (m_X7_found hO) (by decide) rfl rfl (Nat.le_of_ble_eq_true rfl) jBud0 rfl hO ?_
          rintro _ h1 ⟨rfl, t1, E1⟩
          exact e_iret hX dX7_row_34 (by rw [sp_row, if_pos c_4, if_pos c_13, if_pos ((fa_le40 _).mp c_19), if_neg (fun q => c_26 ((fa_ge0 _).mpr q))]; exact ⟨rfl, c.st hs t1 E1, E1.mono (fun j q => by unfold jHi; omega)⟩) (fun z => z)
      · refine e_ldc dX7_row_22 kX7_73 ?_
        exact e_iret hX dX7_row_24 (by rw [sp_row, if_pos c_4, if_pos c_13, if_neg (fun q => c_19 ((fa_le40 _).mpr q))]; exact rAns.same c rfl) (fun z => z)
