set_option maxRecDepth 100000 in
set_option maxHeartbeats 4000000 in
theorem r_status {h : jH} {S : jS} (c : RI h S) (g : SG S)  : jM yX7_status cX7_status 1 (some .int) 0 none [.ref 218] h (rAns h ((fun S : jS => nI S.1.1) S, S)) := by
  obtain ⟨⟨s, hO, s0, s1, s2, s8, s9⟩, c2, c3, hW, c5, c6, c7, c8⟩ := id c
  obtain ⟨g0, g1, g2, ⟨ok, gd, gh⟩, ⟨ga, gp⟩, gi, gt⟩ := id g
  obtain ⟨k0, k1, k2, k3, k4, k5⟩ := id ok
  obtain ⟨B, hB, hb⟩ := id c3
  obtain ⟨Pa, hP, hPa⟩ := id c5
  obtain ⟨Im, Kk, hI1, hI2, hI3, hI4⟩ := id c6
  obtain ⟨⟨x1, hx1⟩, ⟨x2, hx2⟩, ⟨x3, hx3⟩, ⟨x4, hx4⟩, ⟨x5, hx5⟩, x6, hx6⟩ := id c7
  obtain ⟨tf, ht1, ht2⟩ := id c8
  refine jM.ofF (by decide +kernel) rfl (Nat.le_of_ble_eq_true rfl) (fun X hX hI => ?_)
  show jV cX7_status RX7 0 X none 0 [some (.ref 218)] [] h
  refine e_al0 dX7_status_0 ?_
  refine e_get dX7_status_1 fX7_60 hO rfl ?_
  exact e_iret hX dX7_status_4 (rAns.same c s0) (fun z => z)
set_option maxRecDepth 100000 in
set_option maxHeartbeats 4000000 in
theorem r_fault {h : jH} {S : jS} (c : RI h S) (g : SG S)  : jM yX7_fault cX7_fault 1 (some .int) 0 none [.ref 218] h (rAns h ((fun S : jS => nI S.2.1.2.2) S, S)) := by
  obtain ⟨⟨s, hO, s0, s1, s2, s8, s9⟩, c2, c3, hW, c5, c6, c7, c8⟩ := id c
  obtain ⟨g0, g1, g2, ⟨ok, gd, gh⟩, ⟨ga, gp⟩, gi, gt⟩ := id g
  obtain ⟨k0, k1, k2, k3, k4, k5⟩ := id ok
  obtain ⟨B, hB, hb⟩ := id c3
  obtain ⟨Pa, hP, hPa⟩ := id c5
  obtain ⟨Im, Kk, hI1, hI2, hI3, hI4⟩ := id c6
  obtain ⟨⟨x1, hx1⟩, ⟨x2, hx2⟩, ⟨x3, hx3⟩, ⟨x4, hx4⟩, ⟨x5, hx5⟩, x6, hx6⟩ := id c7
  obtain ⟨tf, ht1, ht2⟩ := id c8
  refine jM.ofF (by decide +kernel) rfl (Nat.le_of_ble_eq_true rfl) (fun X hX hI => ?_)
  show jV cX7_fault RX7 0 X none 0 [some (.ref 218)] [] h
  refine e_al0 dX7_fault_0 ?_
  refine e_get dX7_fault_1 fX7_117 hO rfl ?_
  exact e_iret hX dX7_fault_4 (rAns.same c s2) (fun z => z)
set_option maxRecDepth 100000 in
set_option maxHeartbeats 4000000 in
theorem m_X7_kindIn {h : jH} {s : Nat → Int32} {w : hw} (hO : RO h s) (hW : h[224]? = some (jN 41 w)) {i : Nat} (hi : i < 7) : jM yX7_kindIn cX7_kindIn 2 (some .int) 0 none [.ref 218, .int (nI i)] h (jRt (.int (nI (w (13 + 4 * i)))) h) := by
  refine jM.ofF (by decide +kernel) rfl (Nat.le_of_ble_eq_true rfl) (fun X hX hI => ?_)
  show jV cX7_kindIn RX7 0 X none 0 [some (.ref 218), some (.int (nI i))] [] h
  refine e_al0 dX7_kindIn_0 ?_
  refine e_get dX7_kindIn_1 fX7_25 hO rfl ?_
  refine e_bipush (nI 13) dX7_kindIn_4 (by decide) ?_
  refine e_iconst (nI 4) dX7_kindIn_6 (by decide) ?_
  refine e_il1 dX7_kindIn_7 ?_
  refine e_imulN dX7_kindIn_8 ?_
  refine e_iaddN dX7_kindIn_9 ?_
  refine e_ialdN dX7_kindIn_10 hW (by omega) (by decide) ?_
  exact e_iret hX dX7_kindIn_11 (⟨rfl, rfl⟩) (fun z => z)
set_option maxRecDepth 100000 in
set_option maxHeartbeats 4000000 in
theorem r_kind {h : jH} {S : jS} (c : RI h S) (g : SG S) {x : Int32} : jM yX7_kind cX7_kind 2 (some .int) 2 none [.ref 218, .int x] h (rAns h (sp_kind x S, S)) := by
  obtain ⟨⟨s, hO, s0, s1, s2, s8, s9⟩, c2, c3, hW, c5, c6, c7, c8⟩ := id c
  obtain ⟨g0, g1, g2, ⟨ok, gd, gh⟩, ⟨ga, gp⟩, gi, gt⟩ := id g
  obtain ⟨k0, k1, k2, k3, k4, k5⟩ := id ok
  obtain ⟨B, hB, hb⟩ := id c3
  obtain ⟨Pa, hP, hPa⟩ := id c5
  obtain ⟨Im, Kk, hI1, hI2, hI3, hI4⟩ := id c6
  obtain ⟨⟨x1, hx1⟩, ⟨x2, hx2⟩, ⟨x3, hx3⟩, ⟨x4, hx4⟩, ⟨x5, hx5⟩, x6, hx6⟩ := id c7
  obtain ⟨tf, ht1, ht2⟩ := id c8
  refine jM.ofF (by decide +kernel) rfl (Nat.le_of_ble_eq_true rfl) (fun X hX hI => ?_)
  show jV cX7_kind RX7 2 X none 0 [some (.ref 218), some (.int x)] [] h
  refine e_al0 dX7_kind_0 ?_
  refine e_il1 dX7_kind_1 ?_
  refine e_cv dX7_kind_2 vX7_195 (m_X7_isPair hO hW (by omega)) (by decide) rfl rfl (Nat.le_of_ble_eq_true rfl) jBud0 rfl hO ?_
  rintro _ _ ⟨rfl, rfl⟩
  refine e_if_eqB 16 dX7_kind_5 (by decide) (fun c_5 => ?_) (fun c_5 => ?_)
  · refine e_ldc dX7_kind_16 kX7_73 ?_
    exact e_iret hX dX7_kind_18 (by rw [sp_kind, if_neg c_5]; exact rAns.same c rfl) (fun z => z)
  · obtain ⟨i, hi, rfl⟩ := iN_of c_5 (by omega)
    have ei : (nI i).toNatClampNeg = i := nI_clamp (by omega)
    refine e_al0 dX7_kind_8 ?_
    refine e_il1 dX7_kind_9 ?_
    refine e_cv dX7_kind_10 vX7_240 (m_X7_kindIn hO hW (by omega)) (by decide) rfl rfl (Nat.le_of_ble_eq_true rfl) jBud0 rfl hO ?_
    rintro _ _ ⟨rfl, rfl⟩
    refine e_goto 18 dX7_kind_13 (by decide) ?_
    exact e_iret hX dX7_kind_18 (by rw [sp_kind, if_pos c_5, ei]; exact rAns.same c rfl) (fun z => z)
set_option maxRecDepth 100000 in
set_option maxHeartbeats 4000000 in
theorem r_trace {h : jH} {S : jS} (c : RI h S) (g : SG S) {x : Int32} : jM yX7_trace cX7_trace 2 (some .int) 1 none [.ref 218, .int x] h (rAns h (sp_trace x S, S)) := by
  obtain ⟨⟨s, hO, s0, s1, s2, s8, s9⟩, c2, c3, hW, c5, c6, c7, c8⟩ := id c
  obtain ⟨g0, g1, g2, ⟨ok, gd, gh⟩, ⟨ga, gp⟩, gi, gt⟩ := id g
  obtain ⟨k0, k1, k2, k3, k4, k5⟩ := id ok
  obtain ⟨B, hB, hb⟩ := id c3
  obtain ⟨Pa, hP, hPa⟩ := id c5
  obtain ⟨Im, Kk, hI1, hI2, hI3, hI4⟩ := id c6
  obtain ⟨⟨x1, hx1⟩, ⟨x2, hx2⟩, ⟨x3, hx3⟩, ⟨x4, hx4⟩, ⟨x5, hx5⟩, x6, hx6⟩ := id c7
  obtain ⟨tf, ht1, ht2⟩ := id c8
  refine jM.ofF (by decide +kernel) rfl (Nat.le_of_ble_eq_true rfl) (fun X hX hI => ?_)
  show jV cX7_trace RX7 1 X none 0 [some (.ref 218), some (.int x)] [] h
  refine e_il1 dX7_trace_0 ?_
  refine e_iconst (nI 0) dX7_trace_1 (by decide) ?_
  refine e_al0 dX7_trace_2 ?_
  refine e_get dX7_trace_3 fX7_243 hO rfl ?_
  rw [s9]
  refine e_iconst (nI 1) dX7_trace_6 (by decide) ?_
  refine e_isub dX7_trace_7 ?_
  refine e_cs dX7_trace_8 sX7_65 (m_X7_inN (by omega)) (by decide) rfl rfl (Nat.le_of_ble_eq_true rfl) jBud0 ?_
  rintro _ _ ⟨rfl, rfl⟩
  refine e_if_eqB 23 dX7_trace_11 (by decide) (fun c_11 => ?_) (fun c_11 => ?_)
  · refine e_ldc dX7_trace_23 kX7_59 ?_
    exact e_iret hX dX7_trace_25 (by rw [sp_trace, if_neg c_11]; exact rAns.same c rfl) (fun z => z)
  · obtain ⟨i, hi, rfl⟩ := iN_of c_11 (by omega)
    have ei : (nI i).toNatClampNeg = i := nI_clamp (by omega)
    refine e_al0 dX7_trace_14 ?_
    refine e_get dX7_trace_15 fX7_56 hO rfl ?_
    refine e_il1 dX7_trace_18 ?_
    refine e_ialdN dX7_trace_19 ht1 (by omega) (by decide) ?_
    refine e_goto 25 dX7_trace_20 (by decide) ?_
    exact e_iret hX dX7_trace_25 (by rw [sp_trace, if_pos c_11, ei]; exact rAns.same c (by rw [ht2 i hi])) (fun z => z)
set_option maxRecDepth 100000 in
set_option maxHeartbeats 4000000 in
theorem r_feed {h : jH} {S : jS} (c : RI h S) (g : SG S) {x : Int32} : jM yX7_feed cX7_feed 2 (some .int) 1 none [.ref 218, .int x] h (rAns h (sp_feed x S)) := by
  obtain ⟨⟨s, hO, s0, s1, s2, s8, s9⟩, c2, c3, hW, c5, c6, c7, c8⟩ := id c
  obtain ⟨g0, g1, g2, ⟨ok, gd, gh⟩, ⟨ga, gp⟩, gi, gt⟩ := id g
  obtain ⟨k0, k1, k2, k3, k4, k5⟩ := id ok
  obtain ⟨B, hB, hb⟩ := id c3
  obtain ⟨Pa, hP, hPa⟩ := id c5
  obtain ⟨Im, Kk, hI1, hI2, hI3, hI4⟩ := id c6
  obtain ⟨⟨x1, hx1⟩, ⟨x2, hx2⟩, ⟨x3, hx3⟩, ⟨x4, hx4⟩, ⟨x5, hx5⟩, x6, hx6⟩ := id c7
  obtain ⟨tf, ht1, ht2⟩ := id c8
  refine jM.ofF (by decide +kernel) rfl (Nat.le_of_ble_eq_true rfl) (fun X hX hI => ?_)
  show jV cX7_feed RX7 1 X none 0 [some (.ref 218), some (.int x)] [] h
  refine e_il1 dX7_feed_0 ?_
  refine e_iconst (nI 0) dX7_feed_1 (by decide) ?_
  refine e_sipush (nI 255) dX7_feed_2 (by decide) ?_
  refine e_cs dX7_feed_5 sX7_65 (m_X7_inR (by decide) (by decide)) (by decide) rfl rfl (Nat.le_of_ble_eq_true rfl) jBud0 ?_
  rintro _ _ ⟨rfl, rfl⟩
  refine e_if_neB 14 dX7_feed_8 (by decide) (fun c_8 => ?_) (fun c_8 => ?_)
  · obtain ⟨i, li, hi, rfl⟩ := iR_of c_8 (by decide)
    have ei : (nI i).toNatClampNeg = i := nI_clamp (by omega)
    refine e_al0 dX7_feed_14 ?_
    refine e_get dX7_feed_15 fX7_91 hO rfl ?_
    rw [s1]
    refine e_bipush (nI 100) dX7_feed_18 (by decide) ?_
    refine e_ic_neN 26 dX7_feed_20 (by decide) (by omega) (by omega) (fun c_20 => ?_) (fun c_20 => ?_)
    · refine e_al0 dX7_feed_26 ?_
      refine e_get dX7_feed_27 fX7_22 hO rfl ?_
      refine e_al0 dX7_feed_30 ?_
      refine e_get dX7_feed_31 fX7_91 hO rfl ?_
      rw [s1]
      refine e_il1 dX7_feed_34 ?_
      refine e_iastN dX7_feed_35 hB (by omega) (by decide) ?_
      refine e_abs (fun h1 hh => ?_)
      replace hO := jhs hh hO (by omega)
      replace hB := jhs_at hh hB
      have E := jEq.hs hh (jEq.rf (h := h) (P := fun j => j = 218 ∨ j = 223)) (Or.inr rfl)
      clear hh
      refine e_al0 dX7_feed_36 ?_
      refine e_dup dX7_feed_37 rfl ?_
      refine e_get dX7_feed_38 fX7_91 hO rfl ?_
      rw [s1]
      refine e_iconst (nI 1) dX7_feed_41 (by decide) ?_
      refine e_iaddN dX7_feed_42 ?_
      refine e_put dX7_feed_43 fX7_91 hO (Nat.le_of_ble_eq_true rfl) (fun g => ⟨rfl, rfl⟩) ?_
      refine e_abs (fun h2 hh => ?_)
      replace hO : RO h2 (upd s 1 (nI (S.2.1.1 + 1))) := jhs_at hh hO
      replace hB := jhs hh hB (by omega)
      replace E := jEq.hs hh E (Or.inl rfl)
      clear hh
      refine e_al0 dX7_feed_46 ?_
      refine e_get dX7_feed_47 fX7_91 hO rfl ?_
      exact e_iret hX dX7_feed_50 (by
        rw [sp_feed, if_pos c_8, if_neg c_20, ei]
        refine ⟨rfl, ⟨⟨_, hO, s0, rfl, s2, s8, s9⟩, rRows.eq E c2 (fun j _ _ q => by omega), ⟨_, hB, fun q hq => ?_⟩, E.at (by omega) hW, rActs.eq E c5 (by omega), rImg.eq E c6 (by omega) (by omega), rScr.eq E c7 (by omega) (by omega) (by omega) (by omega) (by omega) (by omega), rTrace.eq E c8 (by omega)⟩, E.mono (fun j q => by unfold jHi; omega)⟩
        dsimp only at hq ⊢
        unfold va_up
        by_cases e : q = S.2.1.1
        · rw [if_pos e, if_pos e]
        · rw [if_neg e, if_neg e]; exact hb q (by omega)) (fun z => z)
    · refine e_ldc dX7_feed_23 kX7_94 ?_
      exact e_iret hX dX7_feed_25 (by
        rw [sp_feed, if_pos c_8, if_pos c_20]
        exact rAns.same c rfl) (fun z => z)
  · refine e_ldc dX7_feed_11 kX7_73 ?_
    exact e_iret hX dX7_feed_13 (by rw [sp_feed, if_neg c_8]; exact rAns.same c rfl) (fun z => z)
set_option maxRecDepth 100000 in
set_option maxHeartbeats 4000000 in
theorem r_peg {h : jH} {S : jS} (c : RI h S) (g : SG S) {x v : Int32} : jM yX7_peg cX7_peg 3 (some .int) 2 none [.ref 218, .int x, .int v] h (rAns h (sp_peg x v S)) := by
  obtain ⟨⟨s, hO, s0, s1, s2, s8, s9⟩, c2, c3, hW, c5, c6, c7, c8⟩ := id c
  obtain ⟨g0, g1, g2, ⟨ok, gd, gh⟩, ⟨ga, gp⟩, gi, gt⟩ := id g
  obtain ⟨k0, k1, k2, k3, k4, k5⟩ := id ok
  obtain ⟨B, hB, hb⟩ := id c3
  obtain ⟨Pa, hP, hPa⟩ := id c5
  obtain ⟨Im, Kk, hI1, hI2, hI3, hI4⟩ := id c6
  obtain ⟨⟨x1, hx1⟩, ⟨x2, hx2⟩, ⟨x3, hx3⟩, ⟨x4, hx4⟩, ⟨x5, hx5⟩, x6, hx6⟩ := id c7
  obtain ⟨tf, ht1, ht2⟩ := id c8
  refine jM.ofF (by decide +kernel) rfl (Nat.le_of_ble_eq_true rfl) (fun X hX hI => ?_)
  show jV cX7_peg RX7 2 X none 0 [some (.ref 218), some (.int x), some (.int v)] [] h
  refine e_al0 dX7_peg_0 ?_
  refine e_il1 dX7_peg_1 ?_
  refine e_cv dX7_peg_2 vX7_195 (m_X7_isPair hO hW (by omega)) (by decide) rfl rfl (Nat.le_of_ble_eq_true rfl) jBud0 rfl hO ?_
  rintro _ _ ⟨rfl, rfl⟩
  refine e_if_eqB 17 dX7_peg_5 (by decide) (fun c_5 => ?_) (fun c_5 => ?_)
  · refine e_ldc dX7_peg_17 kX7_73 ?_
    exact e_iret hX dX7_peg_19 (by rw [sp_peg, if_neg c_5]; exact rAns.same c rfl) (fun z => z)
  · refine e_il2 dX7_peg_8 ?_
    refine e_iconst (nI 0) dX7_peg_9 (by decide) ?_
    refine e_iconst (nI 1) dX7_peg_10 (by decide) ?_
    refine e_cs dX7_peg_11 sX7_65 (m_X7_inR (by decide) (by decide)) (by decide) rfl rfl (Nat.le_of_ble_eq_true rfl) jBud0 ?_
    rintro _ _ ⟨rfl, rfl⟩
    refine e_if_neB 20 dX7_peg_14 (by decide) (fun c_14 => ?_) (fun c_14 => ?_)
    · obtain ⟨i, hi, rfl⟩ := iN_of c_5 (by omega)
      have ei : (nI i).toNatClampNeg = i := nI_clamp (by omega)
      obtain ⟨v, lv, hv, rfl⟩ := iR_of c_14 (by decide)
      have ev : (nI v).toNatClampNeg = v := nI_clamp (by omega)
      have k5i := k5 i hi
      refine e_al0 dX7_peg_20 ?_
      refine e_get dX7_peg_21 fX7_25 hO rfl ?_
      refine e_bipush (nI 13) dX7_peg_24 (by decide) ?_
      refine e_iconst (nI 4) dX7_peg_26 (by decide) ?_
      refine e_il1 dX7_peg_27 ?_
      refine e_imulN dX7_peg_28 ?_
      refine e_iaddN dX7_peg_29 ?_
      refine e_iconst (nI 3) dX7_peg_30 (by decide) ?_
      refine e_iaddN dX7_peg_31 ?_
      refine e_ialdN dX7_peg_32 hW (by omega) (by decide) ?_
      refine e_il2 dX7_peg_33 ?_
      refine e_ic_neN 40 dX7_peg_34 (by decide) (by omega) (by omega) (fun c_34 => ?_) (fun c_34 => ?_)
      · refine e_al0 dX7_peg_40 ?_
        refine e_cv dX7_peg_41 vX7_184 (m_X7_notes hO s8 hW c5 ga) (by decide) rfl rfl (Nat.le_of_ble_eq_true rfl) jBud0 rfl hO ?_
        rintro _ h1 ⟨rfl, ⟨s', hO', h8', hk'⟩, hA', E1⟩
        replace hW := E1.at (by omega) hW
        replace c7 := rScr.eq E1 c7 (by omega) (by omega) (by omega) (by omega) (by omega) (by omega)
        replace hO := hO'
        refine e_al0 dX7_peg_44 ?_
        refine e_get dX7_peg_45 fX7_25 hO rfl ?_
        refine e_bipush (nI 13) dX7_peg_48 (by decide) ?_
        refine e_iconst (nI 4) dX7_peg_50 (by decide) ?_
        refine e_il1 dX7_peg_51 ?_
        refine e_imulN dX7_peg_52 ?_
        refine e_iaddN dX7_peg_53 ?_
        refine e_iconst (nI 3) dX7_peg_54 (by decide) ?_
        refine e_iaddN dX7_peg_55 ?_
        refine e_il2 dX7_peg_56 ?_
        refine e_iastN dX7_peg_57 hW (by omega) (by decide) ?_
        refine e_abs (fun h2 hh => ?_)
        replace hO := jhs hh hO (by omega)
        replace hW := jhs_at hh hW
        have E2 := jEq.hs hh (jEq.rf (h := h1) (P := fun j => j = 224)) rfl
        replace c7 := rScr.eq E2 c7 (by omega) (by omega) (by omega) (by omega) (by omega) (by omega)
        replace hA' := rActs.eq E2 hA' (by omega)
        have E := E1.tr E2 (R := fun j => j = 218 ∨ j = 224 ∨ j = 225 ∨ j = 226 ∨ j = 227 ∨ j = 230 ∨ j = 231) (fun j q => by omega) (fun j q => by omega)
        clear hh
        refine e_al0 dX7_peg_58 ?_
        refine e_get dX7_peg_59 fX7_25 hO rfl ?_
        refine e_cs dX7_peg_62 sX7_198 (m_X7_pegsOf hW (ok.peg hv)) (by decide) rfl rfl (Nat.le_of_ble_eq_true rfl) jBud0 ?_
        rintro _ _ ⟨rfl, rfl⟩
        exact e_iret hX dX7_peg_65 (by
          rw [sp_peg, if_pos c_5, if_pos c_14, ei, ev, if_neg (by omega)]
          exact ⟨by rw [va_up_ge (by omega) 3 (by omega)], c.now ⟨s0, s1, s2, s9⟩ hO h8' hk' hW hA' c7 E, E.mono (fun j q => by unfold jHi; omega)⟩) (fun z => z)
      · refine e_ldc dX7_peg_37 kX7_183 ?_
        exact e_iret hX dX7_peg_39 (by
          rw [sp_peg, if_pos c_5, if_pos c_14, ei, ev, if_pos (by omega)]
          exact rAns.same c rfl) (fun z => z)
    · refine e_ldc dX7_peg_17 kX7_73 ?_
      exact e_iret hX dX7_peg_19 (by rw [sp_peg, if_pos c_5, if_neg c_14]; exact rAns.same c rfl) (fun z => z)
set_option maxRecDepth 100000 in
set_option maxHeartbeats 4000000 in
theorem r_move {h : jH} {S : jS} (c : RI h S) (g : SG S) {x y : Int32} : jM yX7_move cX7_move 4 (some .int) 2 none [.ref 218, .int x, .int y] h (rAns h (sp_move x y S)) := by
  obtain ⟨⟨s, hO, s0, s1, s2, s8, s9⟩, c2, c3, hW, c5, c6, c7, c8⟩ := id c
  obtain ⟨g0, g1, g2, ⟨ok, gd, gh⟩, ⟨ga, gp⟩, gi, gt⟩ := id g
  obtain ⟨k0, k1, k2, k3, k4, k5⟩ := id ok
  obtain ⟨B, hB, hb⟩ := id c3
  obtain ⟨Pa, hP, hPa⟩ := id c5
  obtain ⟨Im, Kk, hI1, hI2, hI3, hI4⟩ := id c6
  obtain ⟨⟨x1, hx1⟩, ⟨x2, hx2⟩, ⟨x3, hx3⟩, ⟨x4, hx4⟩, ⟨x5, hx5⟩, x6, hx6⟩ := id c7
  obtain ⟨tf, ht1, ht2⟩ := id c8
  refine jM.ofF (by decide +kernel) rfl (Nat.le_of_ble_eq_true rfl) (fun X hX hI => ?_)
  show jV cX7_move RX7 2 X none 0 [some (.ref 218), some (.int x), some (.int y), none] [] h
  refine e_al0 dX7_move_0 ?_
  refine e_il1 dX7_move_1 ?_
  refine e_cv dX7_move_2 vX7_195 (m_X7_isPair hO hW (by omega)) (by decide) rfl rfl (Nat.le_of_ble_eq_true rfl) jBud0 rfl hO ?_
  rintro _ _ ⟨rfl, rfl⟩
  refine e_if_eqB 16 dX7_move_5 (by decide) (fun c_5 => ?_) (fun c_5 => ?_)
  · refine e_ldc dX7_move_16 kX7_73 ?_
    exact e_iret hX dX7_move_18 (by rw [sp_move, if_neg c_5]; exact rAns.same c rfl) (fun z => z)
  · refine e_al0 dX7_move_8 ?_
    refine e_il2 dX7_move_9 ?_
    refine e_cv dX7_move_10 vX7_201 (m_X7_isHearth hO hW (by omega)) (by decide) rfl rfl (Nat.le_of_ble_eq_true rfl) jBud0 rfl hO ?_
    rintro _ _ ⟨rfl, rfl⟩
    refine e_if_neB 19 dX7_move_13 (by decide) (fun c_13 => ?_) (fun c_13 => ?_)
    · obtain ⟨i, hi, rfl⟩ := iN_of c_5 (by omega)
      have ei : (nI i).toNatClampNeg = i := nI_clamp (by omega)
      obtain ⟨v, hv, rfl⟩ := iN_of c_13 (by omega)
      have ev : (nI v).toNatClampNeg = v := nI_clamp (by omega)
      have k5i := k5 i hi
      refine e_al0 dX7_move_19 ?_
      refine e_get dX7_move_20 fX7_25 hO rfl ?_
      refine e_bipush (nI 13) dX7_move_23 (by decide) ?_
      refine e_iconst (nI 4) dX7_move_25 (by decide) ?_
      refine e_il1 dX7_move_26 ?_
      refine e_imulN dX7_move_27 ?_
      refine e_iaddN dX7_move_28 ?_
      refine e_iconst (nI 2) dX7_move_29 (by decide) ?_
      refine e_iaddN dX7_move_30 ?_
      refine e_ialdN dX7_move_31 hW (by omega) (by decide) ?_
      refine e_is3 dX7_move_32 rfl ?_
      refine e_il3 dX7_move_33 ?_
      refine e_il2 dX7_move_34 ?_
      refine e_ic_neN 41 dX7_move_35 (by decide) (by omega) (by omega) (fun c_35 => ?_) (fun c_35 => ?_)
      · refine e_al0 dX7_move_41 ?_
        refine e_cv dX7_move_42 vX7_184 (m_X7_notes hO s8 hW c5 ga) (by decide) rfl rfl (Nat.le_of_ble_eq_true rfl) jBud0 rfl hO ?_
        rintro _ h1 ⟨rfl, ⟨s', hO', h8', hk'⟩, hA', E1⟩
        replace hW := E1.at (by omega) hW
        replace c7 := rScr.eq E1 c7 (by omega) (by omega) (by omega) (by omega) (by omega) (by omega)
        replace hO := hO'
        refine e_al0 dX7_move_45 ?_
        refine e_get dX7_move_46 fX7_25 hO rfl ?_
        refine e_bipush (nI 13) dX7_move_49 (by decide) ?_
        refine e_iconst (nI 4) dX7_move_51 (by decide) ?_
        refine e_il1 dX7_move_52 ?_
        refine e_imulN dX7_move_53 ?_
        refine e_iaddN dX7_move_54 ?_
        refine e_iconst (nI 2) dX7_move_55 (by decide) ?_
        refine e_iaddN dX7_move_56 ?_
        refine e_il2 dX7_move_57 ?_
        refine e_iastN dX7_move_58 hW (by omega) (by decide) ?_
        refine e_abs (fun h2 hh => ?_)
        replace hO := jhs hh hO (by omega)
        replace hW := jhs_at hh hW
        have E2 := jEq.hs hh (jEq.rf (h := h1) (P := fun j => j = 224)) rfl
        replace c7 := rScr.eq E2 c7 (by omega) (by omega) (by omega) (by omega) (by omega) (by omega)
        replace hA' := rActs.eq E2 hA' (by omega)
        have E := E1.tr E2 (R := fun j => j = 218 ∨ j = 224 ∨ j = 225 ∨ j = 226 ∨ j = 227 ∨ j = 230 ∨ j = 231) (fun j q => by omega) (fun j q => by omega)
        clear hh
        refine e_il3 dX7_move_59 ?_
        exact e_iret hX dX7_move_60 (by
          rw [sp_move, if_pos c_5, if_pos c_13, ei, ev, if_neg (by omega)]
          exact ⟨rfl, c.now ⟨s0, s1, s2, s9⟩ hO h8' hk' hW hA' c7 E, E.mono (fun j q => by unfold jHi; omega)⟩) (fun z => z)
      · refine e_ldc dX7_move_38 kX7_183 ?_
        exact e_iret hX dX7_move_40 (by
          rw [sp_move, if_pos c_5, if_pos c_13, ei, ev, if_pos (by omega)]
          exact rAns.same c rfl) (fun z => z)
    · refine e_ldc dX7_move_16 kX7_73 ?_
      exact e_iret hX dX7_move_18 (by rw [sp_move, if_pos c_5, if_neg c_13]; exact rAns.same c rfl) (fun z => z)
set_option maxRecDepth 100000 in
set_option maxHeartbeats 4000000 in
theorem r_light {h : jH} {S : jS} (c : RI h S) (g : SG S) {x v : Int32} : jM yX7_light cX7_light 4 (some .int) 2 none [.ref 218, .int x, .int v] h (rAns h (sp_light x v S)) := by
  obtain ⟨⟨s, hO, s0, s1, s2, s8, s9⟩, c2, c3, hW, c5, c6, c7, c8⟩ := id c
  obtain ⟨g0, g1, g2, ⟨ok, gd, gh⟩, ⟨ga, gp⟩, gi, gt⟩ := id g
  obtain ⟨k0, k1, k2, k3, k4, k5⟩ := id ok
  obtain ⟨B, hB, hb⟩ := id c3
  obtain ⟨Pa, hP, hPa⟩ := id c5
  obtain ⟨Im, Kk, hI1, hI2, hI3, hI4⟩ := id c6
  obtain ⟨⟨x1, hx1⟩, ⟨x2, hx2⟩, ⟨x3, hx3⟩, ⟨x4, hx4⟩, ⟨x5, hx5⟩, x6, hx6⟩ := id c7
  obtain ⟨tf, ht1, ht2⟩ := id c8
  refine jM.ofF (by decide +kernel) rfl (Nat.le_of_ble_eq_true rfl) (fun X hX hI => ?_)
  show jV cX7_light RX7 2 X none 0 [some (.ref 218), some (.int x), some (.int v), none] [] h
  refine e_al0 dX7_light_0 ?_
  refine e_il1 dX7_light_1 ?_
  refine e_cv dX7_light_2 vX7_201 (m_X7_isHearth hO hW (by omega)) (by decide) rfl rfl (Nat.le_of_ble_eq_true rfl) jBud0 rfl hO ?_
  rintro _ _ ⟨rfl, rfl⟩
  refine e_if_eqB 18 dX7_light_5 (by decide) (fun c_5 => ?_) (fun c_5 => ?_)
  · refine e_ldc dX7_light_18 kX7_73 ?_
    exact e_iret hX dX7_light_20 (by rw [sp_light, if_neg c_5]; exact rAns.same c rfl) (fun z => z)
  · refine e_il2 dX7_light_8 ?_
    refine e_iconst (nI 0) dX7_light_9 (by decide) ?_
    refine e_bipush (nI 20) dX7_light_10 (by decide) ?_
    refine e_cs dX7_light_12 sX7_65 (m_X7_inR (by decide) (by decide)) (by decide) rfl rfl (Nat.le_of_ble_eq_true rfl) jBud0 ?_
    rintro _ _ ⟨rfl, rfl⟩
    refine e_if_neB 21 dX7_light_15 (by decide) (fun c_15 => ?_) (fun c_15 => ?_)
    · obtain ⟨i, hi, rfl⟩ := iN_of c_5 (by omega)
      have ei : (nI i).toNatClampNeg = i := nI_clamp (by omega)
      obtain ⟨v, lv, hv, rfl⟩ := iR_of c_15 (by decide)
      have ev : (nI v).toNatClampNeg = v := nI_clamp (by omega)
      refine e_al0 dX7_light_21 ?_
      refine e_cv dX7_light_22 vX7_184 (m_X7_notes hO s8 hW c5 ga) (by decide) rfl rfl (Nat.le_of_ble_eq_true rfl) jBud0 rfl hO ?_
      rintro _ h1 ⟨rfl, ⟨s', hO', h8', hk'⟩, hA', E1⟩
      replace hW := E1.at (by omega) hW
      replace c7 := rScr.eq E1 c7 (by omega) (by omega) (by omega) (by omega) (by omega) (by omega)
      replace hO := hO'
      refine e_al0 dX7_light_25 ?_
      refine e_get dX7_light_26 fX7_25 hO rfl ?_
      refine e_iconst (nI 5) dX7_light_29 (by decide) ?_
      refine e_il1 dX7_light_30 ?_
      refine e_iaddN dX7_light_31 ?_
      refine e_ialdN dX7_light_32 hW (by omega) (by decide) ?_
      refine e_is3 dX7_light_33 rfl ?_
      refine e_al0 dX7_light_34 ?_
      refine e_get dX7_light_35 fX7_25 hO rfl ?_
      refine e_iconst (nI 5) dX7_light_38 (by decide) ?_
      refine e_il1 dX7_light_39 ?_
      refine e_iaddN dX7_light_40 ?_
      refine e_il2 dX7_light_41 ?_
      refine e_iastN dX7_light_42 hW (by omega) (by decide) ?_
      refine e_abs (fun h2 hh => ?_)
      replace hO := jhs hh hO (by omega)
      replace hW := jhs_at hh hW
      have E2 := jEq.hs hh (jEq.rf (h := h1) (P := fun j => j = 224)) rfl
      replace c7 := rScr.eq E2 c7 (by omega) (by omega) (by omega) (by omega) (by omega) (by omega)
      replace hA' := rActs.eq E2 hA' (by omega)
      have E := E1.tr E2 (R := fun j => j = 218 ∨ j = 224 ∨ j = 225 ∨ j = 226 ∨ j = 227 ∨ j = 230 ∨ j = 231) (fun j q => by omega) (fun j q => by omega)
      clear hh
      refine e_il3 dX7_light_43 ?_
      exact e_iret hX dX7_light_44 (by
        rw [sp_light, if_pos c_5, if_pos c_15, ei, ev]
        exact ⟨rfl, c.now ⟨s0, s1, s2, s9⟩ hO h8' hk' hW hA' c7 E, E.mono (fun j q => by unfold jHi; omega)⟩) (fun z => z)
    · refine e_ldc dX7_light_18 kX7_73 ?_
      exact e_iret hX dX7_light_20 (by rw [sp_light, if_pos c_5, if_neg c_15]; exact rAns.same c rfl) (fun z => z)
set_option maxRecDepth 100000 in
set_option maxHeartbeats 4000000 in
theorem r_weather {h : jH} {S : jS} (c : RI h S) (g : SG S) {v : Int32} : jM yX7_weather cX7_weather 3 (some .int) 2 none [.ref 218, .int v] h (rAns h (sp_weather v S)) := by
  obtain ⟨⟨s, hO, s0, s1, s2, s8, s9⟩, c2, c3, hW, c5, c6, c7, c8⟩ := id c
  obtain ⟨g0, g1, g2, ⟨ok, gd, gh⟩, ⟨ga, gp⟩, gi, gt⟩ := id g
  obtain ⟨k0, k1, k2, k3, k4, k5⟩ := id ok
  obtain ⟨B, hB, hb⟩ := id c3
  obtain ⟨Pa, hP, hPa⟩ := id c5
  obtain ⟨Im, Kk, hI1, hI2, hI3, hI4⟩ := id c6
  obtain ⟨⟨x1, hx1⟩, ⟨x2, hx2⟩, ⟨x3, hx3⟩, ⟨x4, hx4⟩, ⟨x5, hx5⟩, x6, hx6⟩ := id c7
  obtain ⟨tf, ht1, ht2⟩ := id c8
  refine jM.ofF (by decide +kernel) rfl (Nat.le_of_ble_eq_true rfl) (fun X hX hI => ?_)
  show jV cX7_weather RX7 2 X none 0 [some (.ref 218), some (.int v), none] [] h
  refine e_al0 dX7_weather_0 ?_
  refine e_cv dX7_weather_1 vX7_180 (m_X7_isHouse hO hW (by omega)) (by decide) rfl rfl (Nat.le_of_ble_eq_true rfl) jBud0 rfl hO ?_
  rintro _ _ ⟨rfl, rfl⟩
  refine e_if_neB 10 dX7_weather_4 (by decide) (fun c_4 => ?_) (fun c_4 => ?_)
  · refine e_il1 dX7_weather_10 ?_
    refine e_iconst (nI 0) dX7_weather_11 (by decide) ?_
    refine e_bipush (nI 15) dX7_weather_12 (by decide) ?_
    refine e_cs dX7_weather_14 sX7_65 (m_X7_inR (by decide) (by decide)) (by decide) rfl rfl (Nat.le_of_ble_eq_true rfl) jBud0 ?_
    rintro _ _ ⟨rfl, rfl⟩
    refine e_if_neB 23 dX7_weather_17 (by decide) (fun c_17 => ?_) (fun c_17 => ?_)
    · obtain ⟨v, lv, hv, rfl⟩ := iR_of c_17 (by decide)
      have ev : (nI v).toNatClampNeg = v := nI_clamp (by omega)
      refine e_al0 dX7_weather_23 ?_
      refine e_cv dX7_weather_24 vX7_184 (m_X7_notes hO s8 hW c5 ga) (by decide) rfl rfl (Nat.le_of_ble_eq_true rfl) jBud0 rfl hO ?_
      rintro _ h1 ⟨rfl, ⟨s', hO', h8', hk'⟩, hA', E1⟩
      replace hW := E1.at (by omega) hW
      replace c7 := rScr.eq E1 c7 (by omega) (by omega) (by omega) (by omega) (by omega) (by omega)
      replace hO := hO'
      refine e_al0 dX7_weather_27 ?_
      refine e_get dX7_weather_28 fX7_25 hO rfl ?_
      refine e_iconst (nI 0) dX7_weather_31 (by decide) ?_
      refine e_ialdN dX7_weather_32 hW (by omega) (by decide) ?_
      refine e_is2 dX7_weather_33 rfl ?_
      refine e_al0 dX7_weather_34 ?_
      refine e_get dX7_weather_35 fX7_25 hO rfl ?_
      refine e_iconst (nI 0) dX7_weather_38 (by decide) ?_
      refine e_il1 dX7_weather_39 ?_
      refine e_iastN dX7_weather_40 hW (by omega) (by decide) ?_
      refine e_abs (fun h2 hh => ?_)
      replace hO := jhs hh hO (by omega)
      replace hW := jhs_at hh hW
      have E2 := jEq.hs hh (jEq.rf (h := h1) (P := fun j => j = 224)) rfl
      replace c7 := rScr.eq E2 c7 (by omega) (by omega) (by omega) (by omega) (by omega) (by omega)
      replace hA' := rActs.eq E2 hA' (by omega)
      have E := E1.tr E2 (R := fun j => j = 218 ∨ j = 224 ∨ j = 225 ∨ j = 226 ∨ j = 227 ∨ j = 230 ∨ j = 231) (fun j q => by omega) (fun j q => by omega)
      clear hh
      refine e_il2 dX7_weather_41 ?_
      exact e_iret hX dX7_weather_42 (by
        rw [sp_weather, if_pos (gh.mpr c_4), if_pos c_17, ev]
        exact ⟨rfl, c.now ⟨s0, s1, s2, s9⟩ hO h8' hk' hW hA' c7 E, E.mono (fun j q => by unfold jHi; omega)⟩) (fun z => z)
    · refine e_ldc dX7_weather_20 kX7_73 ?_
      exact e_iret hX dX7_weather_22 (by rw [sp_weather, if_pos (gh.mpr c_4), if_neg c_17]; exact rAns.same c rfl) (fun z => z)
  · refine e_ldc dX7_weather_7 kX7_183 ?_
    exact e_iret hX dX7_weather_9 (by rw [sp_weather, if_neg (fun q => c_4 (gh.mp q))]; exact rAns.same c rfl) (fun z => z)
set_option maxRecDepth 100000 in
set_option maxHeartbeats 4000000 in
theorem r_undo {h : jH} {S : jS} (c : RI h S) (g : SG S)  : jM yX7_undo cX7_undo 1 (some .int) 1 none [.ref 218] h (rAns h (sp_undo S)) := by
  obtain ⟨⟨s, hO, s0, s1, s2, s8, s9⟩, c2, c3, hW, c5, c6, c7, c8⟩ := id c
  obtain ⟨g0, g1, g2, ⟨ok, gd, gh⟩, ⟨ga, gp⟩, gi, gt⟩ := id g
  obtain ⟨k0, k1, k2, k3, k4, k5⟩ := id ok
  obtain ⟨B, hB, hb⟩ := id c3
  obtain ⟨Pa, hP, hPa⟩ := id c5
  obtain ⟨Im, Kk, hI1, hI2, hI3, hI4⟩ := id c6
  obtain ⟨⟨x1, hx1⟩, ⟨x2, hx2⟩, ⟨x3, hx3⟩, ⟨x4, hx4⟩, ⟨x5, hx5⟩, x6, hx6⟩ := id c7
  obtain ⟨tf, ht1, ht2⟩ := id c8
  refine jM.ofF (by decide +kernel) rfl (Nat.le_of_ble_eq_true rfl) (fun X hX hI => ?_)
  show jV cX7_undo RX7 1 X none 0 [some (.ref 218)] [] h
  refine e_al0 dX7_undo_0 ?_
  refine e_get dX7_undo_1 fX7_151 hO rfl ?_
  rw [s8]
  refine e_if_neN 10 dX7_undo_4 (by decide) (by omega) (fun c_4 => ?_) (fun c_4 => ?_)
  · refine e_al0 dX7_undo_10 ?_
    refine e_dup dX7_undo_11 rfl ?_
    refine e_get dX7_undo_12 fX7_151 hO rfl ?_
    rw [s8]
    refine e_iconst (nI 1) dX7_undo_15 (by decide) ?_
    refine e_isubN dX7_undo_16 (by omega) ?_
    refine e_put dX7_undo_17 fX7_151 hO (Nat.le_of_ble_eq_true rfl) (fun g => ⟨rfl, rfl⟩) ?_
    refine e_abs (fun h1 hh => ?_)
    replace hO : RO h1 (upd s 8 (nI (S.2.2.2.1.1 - 1))) := jhs_at hh hO
    replace hP := jhs hh hP (by omega)
    replace hW := jhs hh hW (by omega)
    have E := jEq.hs hh (jEq.rf (h := h) (P := fun j => j = 218 ∨ j = 224)) (Or.inl rfl)
    clear hh
    refine e_al0 dX7_undo_20 ?_
    refine e_get dX7_undo_21 fX7_34 hO rfl ?_
    refine e_bipush (nI 41) dX7_undo_24 (by decide) ?_
    refine e_al0 dX7_undo_26 ?_
    refine e_get dX7_undo_27 fX7_151 hO rfl ?_
    refine e_imulN dX7_undo_30 ?_
    refine e_al0 dX7_undo_31 ?_
    refine e_get dX7_undo_32 fX7_25 hO rfl ?_
    refine e_iconst (nI 0) dX7_undo_35 (by decide) ?_
    refine e_cs dX7_undo_36 sX7_147 (m_X7_copies hP hW (by omega) (v1 := 41 * (S.2.2.2.1.1 - 1)) (v2 := 0) (by omega) (by omega) (by omega) (by omega)) (by decide) rfl rfl (Nat.le_of_ble_eq_true rfl) jBud0 ?_
    rintro _ h2 ⟨rfl, w2, hh, hw2⟩
    replace hO := jhs hh hO (by omega)
    replace hP := jhs hh hP (by omega)
    replace hW := jhs_at hh hW
    replace E := jEq.hs hh E (Or.inr rfl)
    clear hh
    refine e_norm (S.2.2.2.1.2 (S.2.2.2.1.1 - 1)) hW (fun k hk => by rw [hw2, if_pos (by omega), show 41 * (S.2.2.2.1.1 - 1) + (k - 0) = 41 * (S.2.2.2.1.1 - 1) + k by omega, hPa _ (by omega) k hk]) ?_
    refine e_abs (fun h3 hh => ?_)
    replace hO := jhs hh hO (by omega)
    replace hP := jhs hh hP (by omega)
    replace hW := jhs_at hh hW
    replace E := jEq.hs hh E (Or.inr rfl)
    clear hh
    refine e_al0 dX7_undo_39 ?_
    refine e_get dX7_undo_40 fX7_151 hO rfl ?_
    exact e_iret hX dX7_undo_43 (by
      rw [sp_undo, if_neg (by omega)]
      refine ⟨rfl, c.now ⟨s0, s1, s2, s9⟩ hO rfl (fun k hk => by rw [upd, if_neg hk]) hW ⟨Pa, hP, fun j hj => hPa j (by omega)⟩ (rScr.eq E c7 (by omega) (by omega) (by omega) (by omega) (by omega) (by omega)) (E.mono (fun j q => by omega)), E.mono (fun j q => by unfold jHi; omega)⟩) (fun z => z)
  · refine e_ldc dX7_undo_7 kX7_183 ?_
    exact e_iret hX dX7_undo_9 (by
      rw [sp_undo, if_pos c_4]
      exact rAns.same c rfl) (fun z => z)
set_option maxRecDepth 100000 in
set_option maxHeartbeats 4000000 in
theorem r_pair {h : jH} {S : jS} (c : RI h S) (g : SG S) {x v : Int32} : jM yX7_pair cX7_pair 4 (some .int) 3 none [.ref 218, .int x, .int v] h (rAns h (sp_pair x v S, S)) := by
  obtain ⟨⟨s, hO, s0, s1, s2, s8, s9⟩, c2, c3, hW, c5, c6, c7, c8⟩ := id c
  obtain ⟨g0, g1, g2, ⟨ok, gd, gh⟩, ⟨ga, gp⟩, gi, gt⟩ := id g
  obtain ⟨k0, k1, k2, k3, k4, k5⟩ := id ok
  obtain ⟨B, hB, hb⟩ := id c3
  obtain ⟨Pa, hP, hPa⟩ := id c5
  obtain ⟨Im, Kk, hI1, hI2, hI3, hI4⟩ := id c6
  obtain ⟨⟨x1, hx1⟩, ⟨x2, hx2⟩, ⟨x3, hx3⟩, ⟨x4, hx4⟩, ⟨x5, hx5⟩, x6, hx6⟩ := id c7
  obtain ⟨tf, ht1, ht2⟩ := id c8
  refine jM.ofF (by decide +kernel) rfl (Nat.le_of_ble_eq_true rfl) (fun X hX hI => ?_)
  show jV cX7_pair RX7 3 X none 0 [some (.ref 218), some (.int x), some (.int v), none] [] h
  refine e_al0 dX7_pair_0 ?_
  refine e_il1 dX7_pair_1 ?_
  refine e_cv dX7_pair_2 vX7_195 (m_X7_isPair hO hW (by omega)) (by decide) rfl rfl (Nat.le_of_ble_eq_true rfl) jBud0 rfl hO ?_
  rintro _ _ ⟨rfl, rfl⟩
  refine e_if_neB 11 dX7_pair_5 (by decide) (fun c_5 => ?_) (fun c_5 => ?_)
  · obtain ⟨i, hi, rfl⟩ := iN_of c_5 (by omega)
    have ei : (nI i).toNatClampNeg = i := nI_clamp (by omega)
    have k5i := k5 i hi
    refine e_bipush (nI 13) dX7_pair_11 (by decide) ?_
    refine e_iconst (nI 4) dX7_pair_13 (by decide) ?_
    refine e_il1 dX7_pair_14 ?_
    refine e_imulN dX7_pair_15 ?_
    refine e_iaddN dX7_pair_16 ?_
    refine e_is3 dX7_pair_17 rfl ?_
    refine e_il2 dX7_pair_18 ?_
    by_cases q_19_0 : v = 0
    · rw [q_19_0]
      refine e_tin 48 dX7_pair_19 (by decide) (by decide) rfl (by decide) ?_
      first | rw [show (0 : Int32) = nI 0 from rfl] | rw [show (1 : Int32) = nI 1 from rfl] | rw [show (2 : Int32) = nI 2 from rfl]
      refine e_al0 dX7_pair_48 ?_
      refine e_get dX7_pair_49 fX7_25 hO rfl ?_
      refine e_il3 dX7_pair_52 ?_
      refine e_iconst (nI 1) dX7_pair_53 (by decide) ?_
      refine e_iaddN dX7_pair_54 ?_
      refine e_il2 dX7_pair_55 ?_
      refine e_iaddN dX7_pair_56 ?_
      refine e_ialdN dX7_pair_57 hW (by omega) (by decide) ?_
      exact e_iret hX dX7_pair_58 (by rw [sp_pair, if_pos c_5, if_pos q_19_0, ei]; exact rAns.same c rfl) (fun z => z)
    · skip
      by_cases q_19_1 : v = 1
      · rw [q_19_1]
        refine e_tin 48 dX7_pair_19 (by decide) (by decide) rfl (by decide) ?_
        first | rw [show (0 : Int32) = nI 0 from rfl] | rw [show (1 : Int32) = nI 1 from rfl] | rw [show (2 : Int32) = nI 2 from rfl]
        refine e_al0 dX7_pair_48 ?_
        refine e_get dX7_pair_49 fX7_25 hO rfl ?_
        refine e_il3 dX7_pair_52 ?_
        refine e_iconst (nI 1) dX7_pair_53 (by decide) ?_
        refine e_iaddN dX7_pair_54 ?_
        refine e_il2 dX7_pair_55 ?_
        refine e_iaddN dX7_pair_56 ?_
        refine e_ialdN dX7_pair_57 hW (by omega) (by decide) ?_
        exact e_iret hX dX7_pair_58 (by rw [sp_pair, if_pos c_5, if_neg q_19_0, if_pos q_19_1, ei]; exact rAns.same c rfl) (fun z => z)
      · skip
        by_cases q_19_2 : v = 2
        · rw [q_19_2]
          refine e_tin 48 dX7_pair_19 (by decide) (by decide) rfl (by decide) ?_
          first | rw [show (0 : Int32) = nI 0 from rfl] | rw [show (1 : Int32) = nI 1 from rfl] | rw [show (2 : Int32) = nI 2 from rfl]
          refine e_al0 dX7_pair_48 ?_
          refine e_get dX7_pair_49 fX7_25 hO rfl ?_
          refine e_il3 dX7_pair_52 ?_
          refine e_iconst (nI 1) dX7_pair_53 (by decide) ?_
          refine e_iaddN dX7_pair_54 ?_
          refine e_il2 dX7_pair_55 ?_
          refine e_iaddN dX7_pair_56 ?_
          refine e_ialdN dX7_pair_57 hW (by omega) (by decide) ?_
          exact e_iret hX dX7_pair_58 (by rw [sp_pair, if_pos c_5, if_neg q_19_0, if_neg q_19_1, if_pos q_19_2, ei]; exact rAns.same c rfl) (fun z => z)
        · skip
          by_cases q_19_3 : v = 3
          · rw [q_19_3]
            refine e_tin 59 dX7_pair_19 (by decide) (by decide) rfl (by decide) ?_
            refine e_al0 dX7_pair_59 ?_
            refine e_get dX7_pair_60 fX7_25 hO rfl ?_
            refine e_il1 dX7_pair_63 ?_
            refine e_cs dX7_pair_64 sX7_173 (m_X7_keeps hW ok hi (by omega)) (by decide) rfl rfl (Nat.le_of_ble_eq_true rfl) jBud0 ?_
            rintro _ _ ⟨rfl, rfl⟩
            refine e_al0 dX7_pair_67 ?_
            refine e_get dX7_pair_68 fX7_25 hO rfl ?_
            refine e_il3 dX7_pair_71 ?_
            refine e_iconst (nI 1) dX7_pair_72 (by decide) ?_
            refine e_iaddN dX7_pair_73 ?_
            refine e_ialdN dX7_pair_74 hW (by omega) (by decide) ?_
            refine e_isub dX7_pair_75 ?_
            exact e_iret hX dX7_pair_76 (by rw [sp_pair, if_pos c_5, if_neg q_19_0, if_neg q_19_1, if_neg q_19_2, if_pos q_19_3, ei]; exact rAns.same c rfl) (fun z => z)
          · skip
            refine e_tout 77 dX7_pair_19 (sw_out4 q_19_0 q_19_1 q_19_2 q_19_3) (by decide) ?_
            refine e_ldc dX7_pair_77 kX7_73 ?_
            exact e_iret hX dX7_pair_79 (by rw [sp_pair, if_pos c_5, if_neg q_19_0, if_neg q_19_1, if_neg q_19_2, if_neg q_19_3]; exact rAns.same c rfl) (fun z => z)
  · refine e_ldc dX7_pair_8 kX7_73 ?_
    exact e_iret hX dX7_pair_10 (by rw [sp_pair, if_neg c_5]; exact rAns.same c rfl) (fun z => z)
set_option maxRecDepth 100000 in
set_option maxHeartbeats 4000000 in
theorem lp_X7_pairsAt {h : jH} {s : Nat → Int32} (hO : RO h s) {w : hw} (hW : h[224]? = some (jN 41 w)) (ok : g_ok w) {m : Nat} (hm8 : m < 8) {X : jX} (hX : jRet X (some .int) none (jRt (.int (nI (s_at w m (w 3)))) h)) : ∀ (n i acc : Nat), w 3 - i < n → i ≤ w 3 → acc = s_at w m i → jV cX7_pairsAt RX7 0 X none 4 [some (.ref 218), some (.int (nI m)), some (.int (nI acc)), some (.int (nI i))] [] h := by
  intro n
  induction n with
  | zero => intros; omega
  | succ n ih =>
    intro i acc hm hi hacc
    obtain ⟨k0, k1, k2, k3, k4, k5⟩ := id ok
    refine e_il3 dX7_pairsAt_4 ?_
    refine e_al0 dX7_pairsAt_5 ?_
    refine e_get dX7_pairsAt_6 fX7_25 hO rfl ?_
    refine e_iconst (nI 3) dX7_pairsAt_9 (by decide) ?_
    refine e_ialdN dX7_pairsAt_10 hW (by omega) (by decide) ?_
    refine e_ic_geN 47 dX7_pairsAt_11 (by decide) (by omega) (by omega) (fun c_11 => ?_) (fun c_11 => ?_)
    · refine e_il2 dX7_pairsAt_47 ?_
      exact e_iret hX dX7_pairsAt_48 (by rw [hacc, show i = w 3 by omega]; exact ⟨rfl, rfl⟩) (fun z => z)
    · have k5i := k5 i (by omega)
      refine e_il2 dX7_pairsAt_14 ?_
      refine e_al0 dX7_pairsAt_15 ?_
      refine e_get dX7_pairsAt_16 fX7_25 hO rfl ?_
      refine e_bipush (nI 13) dX7_pairsAt_19 (by decide) ?_
      refine e_iconst (nI 4) dX7_pairsAt_21 (by decide) ?_
      refine e_il3 dX7_pairsAt_22 ?_
      refine e_imulN dX7_pairsAt_23 ?_
      refine e_iaddN dX7_pairsAt_24 ?_
      refine e_iconst (nI 2) dX7_pairsAt_25 (by decide) ?_
      refine e_iaddN dX7_pairsAt_26 ?_
      refine e_ialdN dX7_pairsAt_27 hW (by omega) (by decide) ?_
      refine e_il1 dX7_pairsAt_28 ?_
      refine e_ic_neN 38 dX7_pairsAt_29 (by decide) (by omega) (by omega) (fun c_29 => ?_) (fun c_29 => ?_)
      · refine e_iconst (nI 0) dX7_pairsAt_38 (by decide) ?_
        refine e_iorN dX7_pairsAt_39 ?_
        refine e_is2 dX7_pairsAt_40 rfl ?_
        refine e_inc3N dX7_pairsAt_41 rfl ?_
        refine e_goto 4 dX7_pairsAt_44 (by decide) ?_
        exact ih (i + 1) _ (by omega) (by omega) (by first | (rw [s_at, if_pos (by omega), hacc, Nat.one_mul]) | (rw [s_at, if_neg (by omega), hacc]))
      · refine e_iconst (nI 1) dX7_pairsAt_32 (by decide) ?_
        refine e_il3 dX7_pairsAt_33 ?_
        refine e_ishlN dX7_pairsAt_34 (by omega) (n_p8 (by omega)) ?_
        refine e_goto 39 dX7_pairsAt_35 (by decide) ?_
        refine e_iorN dX7_pairsAt_39 ?_
        refine e_is2 dX7_pairsAt_40 rfl ?_
        refine e_inc3N dX7_pairsAt_41 rfl ?_
        refine e_goto 4 dX7_pairsAt_44 (by decide) ?_
        exact ih (i + 1) _ (by omega) (by omega) (by first | (rw [s_at, if_pos (by omega), hacc, Nat.one_mul]) | (rw [s_at, if_neg (by omega), hacc]))
set_option maxRecDepth 100000 in
set_option maxHeartbeats 4000000 in
theorem m_X7_pairsAt {h : jH} {s : Nat → Int32} (hO : RO h s) {w : hw} (hW : h[224]? = some (jN 41 w)) (ok : g_ok w) {m : Nat} (hm8 : m < 8) : jM yX7_pairsAt cX7_pairsAt 4 (some .int) 0 none [.ref 218, .int (nI m)] h (jRt (.int (nI (s_at w m (w 3)))) h) := by
  refine jM.ofF (by decide +kernel) rfl (Nat.le_of_ble_eq_true rfl) (fun X hX hI => ?_)
  show jV cX7_pairsAt RX7 0 X none 0 [some (.ref 218), some (.int (nI m)), none, none] [] h
  refine e_iconst (nI 0) dX7_pairsAt_0 (by decide) ?_
  refine e_is2 dX7_pairsAt_1 rfl ?_
  refine e_iconst (nI 0) dX7_pairsAt_2 (by decide) ?_
  refine e_is3 dX7_pairsAt_3 rfl ?_
  exact lp_X7_pairsAt hO hW ok hm8 hX (w 3 + 1) 0 0 (by omega) (by omega) rfl
set_option maxRecDepth 100000 in
set_option maxHeartbeats 4000000 in
theorem lp_X7_blownInto {h : jH} {s : Nat → Int32} (hO : RO h s) {w : hw} (hW : h[224]? = some (jN 41 w)) (ok : g_ok w) {m : Nat} (hm8 : m < 8) {X : jX} (hX : jRet X (some .int) none (jRt (.int (nI (s_blown w m (w 3)))) h)) : ∀ (n i acc : Nat), w 3 - i < n → i ≤ w 3 → acc = s_blown w m i → jV cX7_blownInto RX7 2 X none 4 [some (.ref 218), some (.int (nI m)), some (.int (nI acc)), some (.int (nI i))] [] h := by
  intro n
  induction n with
  | zero => intros; omega
  | succ n ih =>
    intro i acc hm hi hacc
    obtain ⟨k0, k1, k2, k3, k4, k5⟩ := id ok
    refine e_il3 dX7_blownInto_4 ?_
    refine e_al0 dX7_blownInto_5 ?_
    refine e_get dX7_blownInto_6 fX7_25 hO rfl ?_
    refine e_iconst (nI 3) dX7_blownInto_9 (by decide) ?_
    refine e_ialdN dX7_blownInto_10 hW (by omega) (by decide) ?_
    refine e_ic_geN 52 dX7_blownInto_11 (by decide) (by omega) (by omega) (fun c_11 => ?_) (fun c_11 => ?_)
    · refine e_il2 dX7_blownInto_52 ?_
      exact e_iret hX dX7_blownInto_53 (by rw [hacc, show i = w 3 by omega]; exact ⟨rfl, rfl⟩) (fun z => z)
    · have k5i := k5 i (by omega)
      refine e_il2 dX7_blownInto_14 ?_
      refine e_al0 dX7_blownInto_15 ?_
      refine e_get dX7_blownInto_16 fX7_25 hO rfl ?_
      refine e_bipush (nI 13) dX7_blownInto_19 (by decide) ?_
      refine e_iconst (nI 4) dX7_blownInto_21 (by decide) ?_
      refine e_il3 dX7_blownInto_22 ?_
      refine e_imulN dX7_blownInto_23 ?_
      refine e_iaddN dX7_blownInto_24 ?_
      refine e_iconst (nI 2) dX7_blownInto_25 (by decide) ?_
      refine e_iaddN dX7_blownInto_26 ?_
      refine e_ialdN dX7_blownInto_27 hW (by omega) (by decide) ?_
      refine e_il1 dX7_blownInto_28 ?_
      refine e_ic_neN 43 dX7_blownInto_29 (by decide) (by omega) (by omega) (fun c_29 => ?_) (fun c_29 => ?_)
      · refine e_iconst (nI 0) dX7_blownInto_43 (by decide) ?_
        refine e_iaddN dX7_blownInto_44 ?_
        refine e_is2 dX7_blownInto_45 rfl ?_
        refine e_inc3N dX7_blownInto_46 rfl ?_
        refine e_goto 4 dX7_blownInto_49 (by decide) ?_
        exact ih (i + 1) _ (by omega) (by omega) (by first | (rw [s_blown, if_pos (by omega), hacc]) | (rw [s_blown, if_neg (by omega), hacc]))
      · refine e_al0 dX7_blownInto_32 ?_
        refine e_get dX7_blownInto_33 fX7_25 hO rfl ?_
        refine e_il3 dX7_blownInto_36 ?_
        refine e_cs dX7_blownInto_37 sX7_165 (m_X7_blows hW (by omega) (by omega) (by omega)) (by decide) rfl rfl (Nat.le_of_ble_eq_true rfl) jBud0 ?_
        rintro _ _ ⟨rfl, rfl⟩
        refine e_goto 44 dX7_blownInto_40 (by decide) ?_
        refine e_iaddN dX7_blownInto_44 ?_
        refine e_is2 dX7_blownInto_45 rfl ?_
        refine e_inc3N dX7_blownInto_46 rfl ?_
        refine e_goto 4 dX7_blownInto_49 (by decide) ?_
        exact ih (i + 1) _ (by omega) (by omega) (by first | (rw [s_blown, if_pos (by omega), hacc]) | (rw [s_blown, if_neg (by omega), hacc]))
set_option maxRecDepth 100000 in
set_option maxHeartbeats 4000000 in
theorem m_X7_blownInto {h : jH} {s : Nat → Int32} (hO : RO h s) {w : hw} (hW : h[224]? = some (jN 41 w)) (ok : g_ok w) {m : Nat} (hm8 : m < 8) : jM yX7_blownInto cX7_blownInto 4 (some .int) 2 none [.ref 218, .int (nI m)] h (jRt (.int (nI (s_blown w m (w 3)))) h) := by
  refine jM.ofF (by decide +kernel) rfl (Nat.le_of_ble_eq_true rfl) (fun X hX hI => ?_)
  show jV cX7_blownInto RX7 2 X none 0 [some (.ref 218), some (.int (nI m)), none, none] [] h
  refine e_iconst (nI 0) dX7_blownInto_0 (by decide) ?_
  refine e_is2 dX7_blownInto_1 rfl ?_
  refine e_iconst (nI 0) dX7_blownInto_2 (by decide) ?_
  refine e_is3 dX7_blownInto_3 rfl ?_
  exact lp_X7_blownInto hO hW ok hm8 hX (w 3 + 1) 0 0 (by omega) (by omega) rfl
set_option maxRecDepth 100000 in
set_option maxHeartbeats 4000000 in
theorem r_hearth {h : jH} {S : jS} (c : RI h S) (g : SG S) {x v : Int32} : jM yX7_hearth cX7_hearth 3 (some .int) 3 none [.ref 218, .int x, .int v] h (rAns h (sp_hearth x v S, S)) := by
  obtain ⟨⟨s, hO, s0, s1, s2, s8, s9⟩, c2, c3, hW, c5, c6, c7, c8⟩ := id c
  obtain ⟨g0, g1, g2, ⟨ok, gd, gh⟩, ⟨ga, gp⟩, gi, gt⟩ := id g
  obtain ⟨k0, k1, k2, k3, k4, k5⟩ := id ok
  obtain ⟨B, hB, hb⟩ := id c3
  obtain ⟨Pa, hP, hPa⟩ := id c5
  obtain ⟨Im, Kk, hI1, hI2, hI3, hI4⟩ := id c6
  obtain ⟨⟨x1, hx1⟩, ⟨x2, hx2⟩, ⟨x3, hx3⟩, ⟨x4, hx4⟩, ⟨x5, hx5⟩, x6, hx6⟩ := id c7
  obtain ⟨tf, ht1, ht2⟩ := id c8
  refine jM.ofF (by decide +kernel) rfl (Nat.le_of_ble_eq_true rfl) (fun X hX hI => ?_)
  show jV cX7_hearth RX7 3 X none 0 [some (.ref 218), some (.int x), some (.int v)] [] h
  refine e_al0 dX7_hearth_0 ?_
  refine e_il1 dX7_hearth_1 ?_
  refine e_cv dX7_hearth_2 vX7_201 (m_X7_isHearth hO hW (by omega)) (by decide) rfl rfl (Nat.le_of_ble_eq_true rfl) jBud0 rfl hO ?_
  rintro _ _ ⟨rfl, rfl⟩
  refine e_if_neB 11 dX7_hearth_5 (by decide) (fun c_5 => ?_) (fun c_5 => ?_)
  · obtain ⟨i, hi, rfl⟩ := iN_of c_5 (by omega)
    have ei : (nI i).toNatClampNeg = i := nI_clamp (by omega)
    have k4i := k4 i hi
    refine e_il2 dX7_hearth_11 ?_
    by_cases q_12_0 : v = 0
    · rw [q_12_0]
      refine e_tin 44 dX7_hearth_12 (by decide) (by decide) rfl (by decide) ?_
      refine e_al0 dX7_hearth_44 ?_
      refine e_get dX7_hearth_45 fX7_25 hO rfl ?_
      refine e_iconst (nI 5) dX7_hearth_48 (by decide) ?_
      refine e_il1 dX7_hearth_49 ?_
      refine e_iaddN dX7_hearth_50 ?_
      refine e_ialdN dX7_hearth_51 hW (by omega) (by decide) ?_
      exact e_iret hX dX7_hearth_52 (by rw [sp_hearth, if_pos c_5, if_pos q_12_0, ei]; exact rAns.same c rfl) (fun z => z)
    · skip
      by_cases q_12_1 : v = 1
      · rw [q_12_1]
        refine e_tin 53 dX7_hearth_12 (by decide) (by decide) rfl (by decide) ?_
        refine e_al0 dX7_hearth_53 ?_
        refine e_get dX7_hearth_54 fX7_25 hO rfl ?_
        refine e_iconst (nI 5) dX7_hearth_57 (by decide) ?_
        refine e_il1 dX7_hearth_58 ?_
        refine e_iaddN dX7_hearth_59 ?_
        refine e_ialdN dX7_hearth_60 hW (by omega) (by decide) ?_
        refine e_if_leN 68 dX7_hearth_61 (by decide) (by omega) (fun c_61 => ?_) (fun c_61 => ?_)
        · refine e_iconst (nI 0) dX7_hearth_68 (by decide) ?_
          exact e_iret hX dX7_hearth_69 (by rw [sp_hearth, if_pos c_5, if_neg q_12_0, if_pos q_12_1, ei, jb_f (by omega)]; exact rAns.same c rfl) (fun z => z)
        · refine e_iconst (nI 1) dX7_hearth_64 (by decide) ?_
          refine e_goto 69 dX7_hearth_65 (by decide) ?_
          exact e_iret hX dX7_hearth_69 (by rw [sp_hearth, if_pos c_5, if_neg q_12_0, if_pos q_12_1, ei, jb_t c_61]; exact rAns.same c rfl) (fun z => z)
      · skip
        by_cases q_12_2 : v = 2
        · rw [q_12_2]
          refine e_tin 70 dX7_hearth_12 (by decide) (by decide) rfl (by decide) ?_
          refine e_al0 dX7_hearth_70 ?_
          refine e_il1 dX7_hearth_71 ?_
          refine e_cv dX7_hearth_72 vX7_204 (m_X7_pairsAt hO hW ok (by omega)) (by decide) rfl rfl (Nat.le_of_ble_eq_true rfl) jBud0 rfl hO ?_
          rintro _ _ ⟨rfl, rfl⟩
          exact e_iret hX dX7_hearth_75 (by rw [sp_hearth, if_pos c_5, if_neg q_12_0, if_neg q_12_1, if_pos q_12_2, ei]; exact rAns.same c rfl) (fun z => z)
        · skip
          by_cases q_12_3 : v = 3
          · rw [q_12_3]
            refine e_tin 76 dX7_hearth_12 (by decide) (by decide) rfl (by decide) ?_
            refine e_al0 dX7_hearth_76 ?_
            refine e_il1 dX7_hearth_77 ?_
            refine e_cv dX7_hearth_78 vX7_207 (m_X7_blownInto hO hW ok (by omega)) (by decide) rfl rfl (Nat.le_of_ble_eq_true rfl) jBud0 rfl hO ?_
            rintro _ _ ⟨rfl, rfl⟩
            exact e_iret hX dX7_hearth_81 (by rw [sp_hearth, if_pos c_5, if_neg q_12_0, if_neg q_12_1, if_neg q_12_2, if_pos q_12_3, ei]; exact rAns.same c rfl) (fun z => z)
          · skip
            refine e_tout 82 dX7_hearth_12 (sw_out4 q_12_0 q_12_1 q_12_2 q_12_3) (by decide) ?_
            refine e_ldc dX7_hearth_82 kX7_73 ?_
            exact e_iret hX dX7_hearth_84 (by rw [sp_hearth, if_pos c_5, if_neg q_12_0, if_neg q_12_1, if_neg q_12_2, if_neg q_12_3]; exact rAns.same c rfl) (fun z => z)
  · refine e_ldc dX7_hearth_8 kX7_73 ?_
    exact e_iret hX dX7_hearth_10 (by rw [sp_hearth, if_neg c_5]; exact rAns.same c rfl) (fun z => z)
set_option maxRecDepth 100000 in
set_option maxHeartbeats 4000000 in
theorem r_image {h : jH} {S : jS} (c : RI h S) (g : SG S) {x : Int32} : jM yX7_image cX7_image 2 (some .int) 1 none [.ref 218, .int x] h (rAns h (sp_image x S)) := by
  obtain ⟨⟨s, hO, s0, s1, s2, s8, s9⟩, c2, c3, hW, c5, c6, c7, c8⟩ := id c
  obtain ⟨g0, g1, g2, ⟨ok, gd, gh⟩, ⟨ga, gp⟩, gi, gt⟩ := id g
  obtain ⟨k0, k1, k2, k3, k4, k5⟩ := id ok
  obtain ⟨B, hB, hb⟩ := id c3
  obtain ⟨Pa, hP, hPa⟩ := id c5
  obtain ⟨Im, Kk, hI1, hI2, hI3, hI4⟩ := id c6
  obtain ⟨⟨x1, hx1⟩, ⟨x2, hx2⟩, ⟨x3, hx3⟩, ⟨x4, hx4⟩, ⟨x5, hx5⟩, x6, hx6⟩ := id c7
  obtain ⟨tf, ht1, ht2⟩ := id c8
  have hW0 := hW
  have hO0 := hO
  refine jM.ofF (by decide +kernel) rfl (Nat.le_of_ble_eq_true rfl) (fun X hX hI => ?_)
  show jV cX7_image RX7 1 X none 0 [some (.ref 218), some (.int x)] [] h
  refine e_il1 dX7_image_0 ?_
  refine e_iconst (nI 0) dX7_image_1 (by decide) ?_
  refine e_iconst (nI 1) dX7_image_2 (by decide) ?_
  refine e_cs dX7_image_3 sX7_65 (m_X7_inR (by decide) (by decide)) (by decide) rfl rfl (Nat.le_of_ble_eq_true rfl) jBud0 ?_
  rintro _ _ ⟨rfl, rfl⟩
  refine e_if_neB 12 dX7_image_6 (by decide) (fun c_6 => ?_) (fun c_6 => ?_)
  · refine e_al0 dX7_image_12 ?_
    refine e_cv dX7_image_13 vX7_180 (m_X7_isHouse hO hW (by omega)) (by decide) rfl rfl (Nat.le_of_ble_eq_true rfl) jBud0 rfl hO ?_
    rintro _ _ ⟨rfl, rfl⟩
    refine e_if_neB 22 dX7_image_16 (by decide) (fun c_16 => ?_) (fun c_16 => ?_)
    · obtain ⟨i, li, hi, rfl⟩ := iR_of c_6 (by decide)
      have ei : (nI i).toNatClampNeg = i := nI_clamp (by omega)
      refine e_al0 dX7_image_22 ?_
      refine e_get dX7_image_23 fX7_25 hO rfl ?_
      refine e_iconst (nI 0) dX7_image_26 (by decide) ?_
      refine e_al0 dX7_image_27 ?_
      refine e_get dX7_image_28 fX7_37 hO rfl ?_
      refine e_bipush (nI 41) dX7_image_31 (by decide) ?_
      refine e_il1 dX7_image_33 ?_
      refine e_imulN dX7_image_34 ?_
      refine e_cs dX7_image_35 sX7_147 (m_X7_copies hW hI1 (by omega) (v1 := 0) (v2 := 41 * i) (by omega) (by omega) (by omega) (by omega)) (by decide) rfl rfl (Nat.le_of_ble_eq_true rfl) jBud0 ?_
      rintro _ h1 ⟨rfl, Im2, hh, hm2⟩
      replace hO := jhs hh hO (by omega)
      replace hW := jhs hh hW (by omega)
      replace hI1 := jhs_at hh hI1
      replace hI2 := jhs hh hI2 (by omega)
      have E := jEq.hs hh (jEq.rf (h := h) (P := fun j => j = 228 ∨ j = 229)) (Or.inl rfl)
      clear hh
      refine e_al0 dX7_image_38 ?_
      refine e_get dX7_image_39 fX7_40 hO rfl ?_
      refine e_il1 dX7_image_42 ?_
      refine e_iconst (nI 1) dX7_image_43 (by decide) ?_
      refine e_zast dX7_image_44 hI2 (vp_in_nI (by omega) (by decide)) rfl ?_
      rw [nI_clamp (by omega)]
      refine e_abs (fun h2 hh => ?_)
      replace hI1 := jhs hh hI1 (by omega)
      replace hI2 := jhs_at hh hI2
      replace E := jEq.hs hh E (Or.inr rfl)
      clear hh
      refine e_iconst (nI 1) dX7_image_45 (by decide) ?_
      exact e_iret hX dX7_image_46 (by
        rw [sp_image, if_pos c_6, if_pos (gh.mpr c_16), ei]
        refine ⟨rfl, ⟨rTop.eq E ⟨s, hO0, s0, s1, s2, s8, s9⟩ (by omega), rRows.eq E c2 (fun j _ _ q => by omega), rTape.eq E c3 (by omega), E.at (by omega) hW0, rActs.eq E c5 (by omega), ⟨_, _, hI1, hI2, fun j hj => ?_, fun j hj k hk => ?_⟩, rScr.eq E c7 (by omega) (by omega) (by omega) (by omega) (by omega) (by omega), rTrace.eq E c8 (by omega)⟩, E.mono (fun j q => by unfold jHi; omega)⟩
        · dsimp only
          unfold upd
          by_cases e : j = i
          · rw [if_pos e]; exact (jb_t (by rw [if_pos e]; exact gh.mpr c_16)).symm
          · rw [if_neg e]; exact (hI3 j hj).trans (jb_iff (by rw [if_neg e]))
        · dsimp only
          rw [hm2]
          by_cases e : j = i
          · rw [if_pos e, if_pos (by omega), show 0 + (41 * j + k - 41 * i) = k by omega]
          · rw [if_neg e, if_neg (by omega)]; exact hI4 j hj k hk) (fun z => z)
    · refine e_ldc dX7_image_19 kX7_183 ?_
      exact e_iret hX dX7_image_21 (by rw [sp_image, if_pos c_6, if_neg (fun q => c_16 (gh.mp q))]; exact rAns.same c rfl) (fun z => z)
  · refine e_ldc dX7_image_9 kX7_73 ?_
    exact e_iret hX dX7_image_11 (by rw [sp_image, if_neg c_6]; exact rAns.same c rfl) (fun z => z)
set_option maxRecDepth 100000 in
set_option maxHeartbeats 4000000 in
theorem r_restore {h : jH} {S : jS} (c : RI h S) (g : SG S) {x : Int32} : jM yX7_restore cX7_restore 2 (some .int) 1 none [.ref 218, .int x] h (rAns h (sp_restore x S)) := by
  obtain ⟨⟨s, hO, s0, s1, s2, s8, s9⟩, c2, c3, hW, c5, c6, c7, c8⟩ := id c
  obtain ⟨g0, g1, g2, ⟨ok, gd, gh⟩, ⟨ga, gp⟩, gi, gt⟩ := id g
  obtain ⟨k0, k1, k2, k3, k4, k5⟩ := id ok
  obtain ⟨B, hB, hb⟩ := id c3
  obtain ⟨Pa, hP, hPa⟩ := id c5
  obtain ⟨Im, Kk, hI1, hI2, hI3, hI4⟩ := id c6
  obtain ⟨⟨x1, hx1⟩, ⟨x2, hx2⟩, ⟨x3, hx3⟩, ⟨x4, hx4⟩, ⟨x5, hx5⟩, x6, hx6⟩ := id c7
  obtain ⟨tf, ht1, ht2⟩ := id c8
  refine jM.ofF (by decide +kernel) rfl (Nat.le_of_ble_eq_true rfl) (fun X hX hI => ?_)
  show jV cX7_restore RX7 1 X none 0 [some (.ref 218), some (.int x)] [] h
  refine e_il1 dX7_restore_0 ?_
  refine e_iconst (nI 0) dX7_restore_1 (by decide) ?_
  refine e_iconst (nI 1) dX7_restore_2 (by decide) ?_
  refine e_cs dX7_restore_3 sX7_65 (m_X7_inR (by decide) (by decide)) (by decide) rfl rfl (Nat.le_of_ble_eq_true rfl) jBud0 ?_
  rintro _ _ ⟨rfl, rfl⟩
  refine e_if_neB 12 dX7_restore_6 (by decide) (fun c_6 => ?_) (fun c_6 => ?_)
  · obtain ⟨i, li, hi, rfl⟩ := iR_of c_6 (by decide)
    have ei : (nI i).toNatClampNeg = i := nI_clamp (by omega)
    refine e_al0 dX7_restore_12 ?_
    refine e_get dX7_restore_13 fX7_40 hO rfl ?_
    refine e_il1 dX7_restore_16 ?_
    refine e_zald dX7_restore_17 hI2 (vp_in_nI (by omega) (by decide)) ?_
    rw [nI_clamp (by omega)]
    rw [hI3 i (by omega)]
    refine e_if_neB 24 dX7_restore_18 (by decide) (fun c_18 => ?_) (fun c_18 => ?_)
    · refine e_al0 dX7_restore_24 ?_
      refine e_get dX7_restore_25 fX7_37 hO rfl ?_
      refine e_bipush (nI 41) dX7_restore_28 (by decide) ?_
      refine e_il1 dX7_restore_30 ?_
      refine e_imulN dX7_restore_31 ?_
      refine e_al0 dX7_restore_32 ?_
      refine e_get dX7_restore_33 fX7_25 hO rfl ?_
      refine e_iconst (nI 0) dX7_restore_36 (by decide) ?_
      refine e_cs dX7_restore_37 sX7_147 (m_X7_copies hI1 hW (by omega) (v1 := 41 * i) (v2 := 0) (by omega) (by omega) (by omega) (by omega)) (by decide) rfl rfl (Nat.le_of_ble_eq_true rfl) jBud0 ?_
      rintro _ h1 ⟨rfl, w2, hh, hw2⟩
      replace hO := jhs hh hO (by omega)
      replace hW := jhs_at hh hW
      have E := jEq.hs hh (jEq.rf (h := h) (P := fun j => j = 218 ∨ j = 224)) (Or.inr rfl)
      clear hh
      refine e_norm (S.2.2.2.2.1 i) hW (fun k hk => by rw [hw2, if_pos (by omega), show 41 * i + (k - 0) = 41 * i + k by omega, hI4 i (by omega) k hk]) ?_
      refine e_abs (fun h3 hh => ?_)
      replace hO := jhs hh hO (by omega)
      replace hW := jhs_at hh hW
      replace E := jEq.hs hh E (Or.inr rfl)
      clear hh
      refine e_al0 dX7_restore_40 ?_
      refine e_iconst (nI 0) dX7_restore_41 (by decide) ?_
      refine e_put dX7_restore_42 fX7_151 hO (Nat.le_of_ble_eq_true rfl) (fun g => ⟨rfl, rfl⟩) ?_
      refine e_abs (fun h4 hh => ?_)
      replace hO : RO h4 (upd s 8 (nI 0)) := jhs_at hh hO
      replace hW := jhs hh hW (by omega)
      replace E := jEq.hs hh E (Or.inl rfl)
      clear hh
      refine e_iconst (nI 1) dX7_restore_45 (by decide) ?_
      exact e_iret hX dX7_restore_46 (by
        rw [sp_restore, if_pos c_6, ei, if_pos c_18]
        exact ⟨rfl, c.now ⟨s0, s1, s2, s9⟩ hO rfl (fun k hk => by rw [upd, if_neg hk]) hW ⟨Pa, E.at (by omega) hP, fun j hj => absurd hj (by omega)⟩ (rScr.eq E c7 (by omega) (by omega) (by omega) (by omega) (by omega) (by omega)) (E.mono (fun j q => by omega)), E.mono (fun j q => by unfold jHi; omega)⟩) (fun z => z)
    · refine e_ldc dX7_restore_21 kX7_183 ?_
      exact e_iret hX dX7_restore_23 (by
        rw [sp_restore, if_pos c_6, ei, if_neg c_18]
        exact rAns.same c rfl) (fun z => z)
  · refine e_ldc dX7_restore_9 kX7_73 ?_
    exact e_iret hX dX7_restore_11 (by rw [sp_restore, if_neg c_6]; exact rAns.same c rfl) (fun z => z)
set_option maxRecDepth 100000 in
set_option maxHeartbeats 4000000 in
theorem lp_X7_count {h : jH} {s : Nat → Int32} (hO : RO h s) {L : Nat → Int32} (d1 : h[219]? = some (jI 8 L)) {la : Nat → Nat} (hla : ∀ r, r < 8 → la r ≤ 3) (dL : ∀ r, r < 8 → L r = rLane (la r)) {x : Int32} {X : jX} (hX : jRet X (some .int) none (jRt (.int (nI (s_pres la 8))) h)) : ∀ (n i acc : Nat), 8 - i < n → i ≤ 8 → acc = s_pres la i → jV cX7_count RX7 1 X none 58 [some (.ref 218), some (.int x), some (.int (nI acc)), some (.int (nI i))] [] h := by
  intro n
  induction n with
  | zero => intros; omega
  | succ n ih =>
    intro i acc hm hi hacc
    refine e_il3 dX7_count_58 ?_
    refine e_bipush (nI 8) dX7_count_59 (by decide) ?_
    refine e_ic_geN 86 dX7_count_61 (by decide) (by omega) (by omega) (fun c_61 => ?_) (fun c_61 => ?_)
    · refine e_il2 dX7_count_86 ?_
      exact e_iret hX dX7_count_87 (by rw [hacc, show i = 8 by omega]; exact ⟨rfl, rfl⟩) (fun z => z)
    · refine e_il2 dX7_count_64 ?_
      refine e_al0 dX7_count_65 ?_
      refine e_il3 dX7_count_66 ?_
      refine e_cv dX7_count_67 vX7_81 (m_X7_isMissing hO d1 (by omega)) (by decide) rfl rfl (Nat.le_of_ble_eq_true rfl) jBud0 rfl hO ?_
      rintro _ _ ⟨rfl, rfl⟩
      refine e_if_eqB 77 dX7_count_70 (by decide) (fun c_70 => ?_) (fun c_70 => ?_)
      · rw [dL i (by omega), rLane_3 (hla i (by omega))] at c_70
        refine e_iconst (nI 1) dX7_count_77 (by decide) ?_
        refine e_iaddN dX7_count_78 ?_
        refine e_is2 dX7_count_79 rfl ?_
        refine e_inc3N dX7_count_80 rfl ?_
        refine e_goto 58 dX7_count_83 (by decide) ?_
        exact ih (i + 1) _ (by omega) (by omega) (by first | (rw [s_pres, if_neg c_70, hacc]) | (rw [s_pres, if_pos c_70, hacc]))
      · rw [dL i (by omega), rLane_3 (hla i (by omega))] at c_70
        refine e_iconst (nI 0) dX7_count_73 (by decide) ?_
        refine e_goto 78 dX7_count_74 (by decide) ?_
        refine e_iaddN dX7_count_78 ?_
        refine e_is2 dX7_count_79 rfl ?_
        refine e_inc3N dX7_count_80 rfl ?_
        refine e_goto 58 dX7_count_83 (by decide) ?_
        exact ih (i + 1) _ (by omega) (by omega) (by first | (rw [s_pres, if_neg c_70, hacc]) | (rw [s_pres, if_pos c_70, hacc]))
theorem jRet.weak {X : jX} {ret : Option FieldType} {b : jB} {p q : Option Value → jH → Prop} (h : jRet X ret b q) (e : q = p) : jRet X ret b p := e ▸ h
set_option maxRecDepth 100000 in
set_option maxHeartbeats 4000000 in
theorem lp_X7_count0 {h : jH} {S : jS} (c : RI h S) (g : SG S) {v y : Int32} (q0 : v = 0) {X : jX} (hX : jRet X (some .int) none (rAns h (sp_count v S, S))) : ∀ (n i acc : Nat), 8 - i < n → i ≤ 8 → acc = s_pres S.1.2.1 i → jV cX7_count RX7 1 X none 58 [some (.ref 218), some (.int y), some (.int (nI acc)), some (.int (nI i))] [] h := by
  obtain ⟨⟨s, hO, s0, s1, s2, s8, s9⟩, c2, c3, hW, c5, c6, c7, c8⟩ := id c
  obtain ⟨g0, g1, g2, ⟨ok, gd, gh⟩, ⟨ga, gp⟩, gi, gt⟩ := id g
  obtain ⟨k0, k1, k2, k3, k4, k5⟩ := id ok
  obtain ⟨B, hB, hb⟩ := id c3
  obtain ⟨Pa, hP, hPa⟩ := id c5
  obtain ⟨Im, Kk, hI1, hI2, hI3, hI4⟩ := id c6
  obtain ⟨⟨x1, hx1⟩, ⟨x2, hx2⟩, ⟨x3, hx3⟩, ⟨x4, hx4⟩, ⟨x5, hx5⟩, x6, hx6⟩ := id c7
  obtain ⟨tf, ht1, ht2⟩ := id c8
  obtain ⟨L, I_, Sp, N, d1, -, -, -, dL, -⟩ := id c2
  intro n
  induction n with
  | zero => intros; omega
  | succ n ih =>
    intro i acc hm hi hacc
    refine e_il3 dX7_count_58 ?_
    refine e_bipush (nI 8) dX7_count_59 (by decide) ?_
    refine e_ic_geN 86 dX7_count_61 (by decide) (by omega) (by omega) (fun c_61 => ?_) (fun c_61 => ?_)
    · refine e_il2 dX7_count_86 ?_
      exact e_iret hX dX7_count_87 (by rw [sp_count, if_pos q0, hacc, show i = 8 by omega]; exact rAns.same c rfl) (fun z => z)
    · refine e_il2 dX7_count_64 ?_
      refine e_al0 dX7_count_65 ?_
      refine e_il3 dX7_count_66 ?_
      refine e_cv dX7_count_67 vX7_81 (m_X7_isMissing hO d1 (by omega)) (by decide) rfl rfl (Nat.le_of_ble_eq_true rfl) jBud0 rfl hO ?_
      rintro _ _ ⟨rfl, rfl⟩
      refine e_if_eqB 77 dX7_count_70 (by decide) (fun c_70 => ?_) (fun c_70 => ?_)
      · rw [dL i (by omega), rLane_3 (g1 i (by omega)).1] at c_70
        refine e_iconst (nI 1) dX7_count_77 (by decide) ?_
        refine e_iaddN dX7_count_78 ?_
        refine e_is2 dX7_count_79 rfl ?_
        refine e_inc3N dX7_count_80 rfl ?_
        refine e_goto 58 dX7_count_83 (by decide) ?_
        exact ih (i + 1) _ (by omega) (by omega) (by first | (rw [s_pres, if_neg c_70, hacc]) | (rw [s_pres, if_pos c_70, hacc]))
      · rw [dL i (by omega), rLane_3 (g1 i (by omega)).1] at c_70
        refine e_iconst (nI 0) dX7_count_73 (by decide) ?_
        refine e_goto 78 dX7_count_74 (by decide) ?_
        refine e_iaddN dX7_count_78 ?_
        refine e_is2 dX7_count_79 rfl ?_
        refine e_inc3N dX7_count_80 rfl ?_
        refine e_goto 58 dX7_count_83 (by decide) ?_
        exact ih (i + 1) _ (by omega) (by omega) (by first | (rw [s_pres, if_neg c_70, hacc]) | (rw [s_pres, if_pos c_70, hacc]))
set_option maxRecDepth 100000 in
set_option maxHeartbeats 4000000 in
theorem r_count {h : jH} {S : jS} (c : RI h S) (g : SG S) {v : Int32} : jM yX7_count cX7_count 4 (some .int) 1 none [.ref 218, .int v] h (rAns h (sp_count v S, S)) := by
  obtain ⟨⟨s, hO, s0, s1, s2, s8, s9⟩, c2, c3, hW, c5, c6, c7, c8⟩ := id c
  obtain ⟨g0, g1, g2, ⟨ok, gd, gh⟩, ⟨ga, gp⟩, gi, gt⟩ := id g
  obtain ⟨k0, k1, k2, k3, k4, k5⟩ := id ok
  obtain ⟨B, hB, hb⟩ := id c3
  obtain ⟨Pa, hP, hPa⟩ := id c5
  obtain ⟨Im, Kk, hI1, hI2, hI3, hI4⟩ := id c6
  obtain ⟨⟨x1, hx1⟩, ⟨x2, hx2⟩, ⟨x3, hx3⟩, ⟨x4, hx4⟩, ⟨x5, hx5⟩, x6, hx6⟩ := id c7
  obtain ⟨tf, ht1, ht2⟩ := id c8
  refine jM.ofF (by decide +kernel) rfl (Nat.le_of_ble_eq_true rfl) (fun X hX hI => ?_)
  show jV cX7_count RX7 1 X none 0 [some (.ref 218), some (.int v), none, none] [] h
  refine e_iconst (nI 0) dX7_count_0 (by decide) ?_
  refine e_is2 dX7_count_1 rfl ?_
  refine e_il1 dX7_count_2 ?_
  by_cases q_3_0 : v = 0
  · rw [q_3_0]
    refine e_tin 56 dX7_count_3 (by decide) (by decide) rfl (by decide) ?_
    refine e_iconst (nI 0) dX7_count_56 (by decide) ?_
    refine e_is3 dX7_count_57 rfl ?_
    exact lp_X7_count0 c g q_3_0 hX 9 0 0 (by omega) (by omega) rfl
  · skip
    by_cases q_3_1 : v = 1
    · rw [q_3_1]
      refine e_tin 88 dX7_count_3 (by decide) (by decide) rfl (by decide) ?_
      refine e_al0 dX7_count_88 ?_
      refine e_get dX7_count_89 fX7_25 hO rfl ?_
      refine e_iconst (nI 2) dX7_count_92 (by decide) ?_
      refine e_ialdN dX7_count_93 hW (by omega) (by decide) ?_
      exact e_iret hX dX7_count_94 (by rw [sp_count, if_neg q_3_0, if_pos q_3_1]; exact rAns.same c rfl) (fun z => z)
    · skip
      by_cases q_3_2 : v = 2
      · rw [q_3_2]
        refine e_tin 95 dX7_count_3 (by decide) (by decide) rfl (by decide) ?_
        refine e_al0 dX7_count_95 ?_
        refine e_get dX7_count_96 fX7_25 hO rfl ?_
        refine e_iconst (nI 3) dX7_count_99 (by decide) ?_
        refine e_ialdN dX7_count_100 hW (by omega) (by decide) ?_
        exact e_iret hX dX7_count_101 (by rw [sp_count, if_neg q_3_0, if_neg q_3_1, if_pos q_3_2]; exact rAns.same c rfl) (fun z => z)
      · skip
        by_cases q_3_3 : v = 3
        · rw [q_3_3]
          refine e_tin 102 dX7_count_3 (by decide) (by decide) rfl (by decide) ?_
          refine e_al0 dX7_count_102 ?_
          refine e_get dX7_count_103 fX7_25 hO rfl ?_
          refine e_iconst (nI 4) dX7_count_106 (by decide) ?_
          refine e_ialdN dX7_count_107 hW (by omega) (by decide) ?_
          exact e_iret hX dX7_count_108 (by rw [sp_count, if_neg q_3_0, if_neg q_3_1, if_neg q_3_2, if_pos q_3_3]; exact rAns.same c rfl) (fun z => z)
        · skip
          by_cases q_3_4 : v = 4
          · rw [q_3_4]
            refine e_tin 109 dX7_count_3 (by decide) (by decide) rfl (by decide) ?_
            refine e_al0 dX7_count_109 ?_
            refine e_get dX7_count_110 fX7_25 hO rfl ?_
            refine e_iconst (nI 0) dX7_count_113 (by decide) ?_
            refine e_ialdN dX7_count_114 hW (by omega) (by decide) ?_
            exact e_iret hX dX7_count_115 (by rw [sp_count, if_neg q_3_0, if_neg q_3_1, if_neg q_3_2, if_neg q_3_3, if_pos q_3_4]; exact rAns.same c rfl) (fun z => z)
          · skip
            by_cases q_3_5 : v = 5
            · rw [q_3_5]
              refine e_tin 116 dX7_count_3 (by decide) (by decide) rfl (by decide) ?_
              refine e_al0 dX7_count_116 ?_
              refine e_get dX7_count_117 fX7_25 hO rfl ?_
              refine e_iconst (nI 1) dX7_count_120 (by decide) ?_
              refine e_ialdN dX7_count_121 hW (by omega) (by decide) ?_
              exact e_iret hX dX7_count_122 (by rw [sp_count, if_neg q_3_0, if_neg q_3_1, if_neg q_3_2, if_neg q_3_3, if_neg q_3_4, if_pos q_3_5]; exact rAns.same c rfl) (fun z => z)
            · skip
              by_cases q_3_6 : v = 6
              · rw [q_3_6]
                refine e_tin 123 dX7_count_3 (by decide) (by decide) rfl (by decide) ?_
                refine e_al0 dX7_count_123 ?_
                refine e_get dX7_count_124 fX7_25 hO rfl ?_
                refine e_cs dX7_count_127 sX7_191 (m_X7_litOf hW ok) (by decide) rfl rfl (Nat.le_of_ble_eq_true rfl) jBud0 ?_
                rintro _ _ ⟨rfl, rfl⟩
                exact e_iret hX dX7_count_130 (by rw [sp_count, if_neg q_3_0, if_neg q_3_1, if_neg q_3_2, if_neg q_3_3, if_neg q_3_4, if_neg q_3_5, if_pos q_3_6]; exact rAns.same c rfl) (fun z => z)
              · skip
                by_cases q_3_7 : v = 7
                · rw [q_3_7]
                  refine e_tin 131 dX7_count_3 (by decide) (by decide) rfl (by decide) ?_
                  refine e_al0 dX7_count_131 ?_
                  refine e_get dX7_count_132 fX7_25 hO rfl ?_
                  refine e_cs dX7_count_135 sX7_198 (m_X7_pegsOf hW ok) (by decide) rfl rfl (Nat.le_of_ble_eq_true rfl) jBud0 ?_
                  rintro _ _ ⟨rfl, rfl⟩
                  exact e_iret hX dX7_count_138 (by rw [sp_count, if_neg q_3_0, if_neg q_3_1, if_neg q_3_2, if_neg q_3_3, if_neg q_3_4, if_neg q_3_5, if_neg q_3_6, if_pos q_3_7]; exact rAns.same c rfl) (fun z => z)
                · skip
                  by_cases q_3_8 : v = 8
                  · rw [q_3_8]
                    refine e_tin 139 dX7_count_3 (by decide) (by decide) rfl (by decide) ?_
                    refine e_al0 dX7_count_139 ?_
                    refine e_get dX7_count_140 fX7_151 hO rfl ?_
                    exact e_iret hX dX7_count_143 (by rw [sp_count, if_neg q_3_0, if_neg q_3_1, if_neg q_3_2, if_neg q_3_3, if_neg q_3_4, if_neg q_3_5, if_neg q_3_6, if_neg q_3_7, if_pos q_3_8]; exact rAns.same c s8) (fun z => z)
                  · skip
                    by_cases q_3_9 : v = 9
                    · rw [q_3_9]
                      refine e_tin 144 dX7_count_3 (by decide) (by decide) rfl (by decide) ?_
                      refine e_al0 dX7_count_144 ?_
                      refine e_get dX7_count_145 fX7_91 hO rfl ?_
                      exact e_iret hX dX7_count_148 (by rw [sp_count, if_neg q_3_0, if_neg q_3_1, if_neg q_3_2, if_neg q_3_3, if_neg q_3_4, if_neg q_3_5, if_neg q_3_6, if_neg q_3_7, if_neg q_3_8, if_pos q_3_9]; exact rAns.same c s1) (fun z => z)
                    · skip
                      refine e_tout 149 dX7_count_3 (sw_out10 q_3_0 q_3_1 q_3_2 q_3_3 q_3_4 q_3_5 q_3_6 q_3_7 q_3_8 q_3_9) (by decide) ?_
                      refine e_ldc dX7_count_149 kX7_73 ?_
                      exact e_iret hX dX7_count_151 (by rw [sp_count, if_neg q_3_0, if_neg q_3_1, if_neg q_3_2, if_neg q_3_3, if_neg q_3_4, if_neg q_3_5, if_neg q_3_6, if_neg q_3_7, if_neg q_3_8, if_neg q_3_9]; exact rAns.same c rfl) (fun z => z)
set_option maxRecDepth 100000 in
set_option maxHeartbeats 4000000 in
theorem lp_X7_days {h0 : jH} {T : jS} {m : Nat} (hm24 : m ≤ 24) {X : jX} (hX : jRet X (some .int) none (rAns h0 (nI (s_lit T.2.2.1 (T.2.2.1 2)), T))) : ∀ (n i : Nat) (h : jH) (S : jS), m - i < n → i ≤ m → RI h S → SG S → S.2.2.1 4 + (m - i) ≤ 9999 → s_daysN (m - i) S = T → jEq h0 h jHi → jV cX7_days RX7 4 X none 42 [some (.ref 218), some (.int (nI m)), some (.int (nI i))] [] h := by
  intro n
  induction n with
  | zero => intros; omega
  | succ n ih =>
    intro i h S hm hi c g hday hr E0
    obtain ⟨⟨s, hO, s0, s1, s2, s8, s9⟩, c2, c3, hW, c5, c6, c7, c8⟩ := id c
    obtain ⟨g0, g1, g2, ⟨ok, gd, gh⟩, ⟨ga, gp⟩, gi, gt⟩ := id g
    obtain ⟨k0, k1, k2, k3, k4, k5⟩ := id ok
    obtain ⟨B, hB, hb⟩ := id c3
    obtain ⟨Pa, hP, hPa⟩ := id c5
    obtain ⟨Im, Kk, hI1, hI2, hI3, hI4⟩ := id c6
    obtain ⟨⟨x1, hx1⟩, ⟨x2, hx2⟩, ⟨x3, hx3⟩, ⟨x4, hx4⟩, ⟨x5, hx5⟩, x6, hx6⟩ := id c7
    obtain ⟨tf, ht1, ht2⟩ := id c8
    refine e_il2 dX7_days_42 ?_
    refine e_il1 dX7_days_43 ?_
    refine e_ic_geN 65 dX7_days_44 (by decide) (by omega) (by omega) (fun c_44 => ?_) (fun c_44 => ?_)
    · refine e_al0 dX7_days_65 ?_
      refine e_get dX7_days_66 fX7_25 hO rfl ?_
      refine e_cs dX7_days_69 sX7_191 (m_X7_litOf hW ok) (by decide) rfl rfl (Nat.le_of_ble_eq_true rfl) jBud0 ?_
      rintro _ _ ⟨rfl, rfl⟩
      exact e_iret hX dX7_days_72 (by
        have e0 : m - i = 0 := by omega
        rw [e0] at hr
        rw [← hr]
        exact ⟨rfl, c, E0⟩) (fun z => z)
    · refine e_al0 dX7_days_47 ?_
      refine e_cv dX7_days_48 vX7_184 (m_X7_notes hO s8 hW c5 ga) (by decide) rfl rfl (Nat.le_of_ble_eq_true rfl) jBud0 rfl hO ?_
      rintro _ h1 ⟨rfl, ⟨s', hO', h8', hk'⟩, hA', E1⟩
      replace hW := E1.at (by omega) hW
      replace c7 := rScr.eq E1 c7 (by omega) (by omega) (by omega) (by omega) (by omega) (by omega)
      replace hO := hO'
      refine e_al0 dX7_days_51 ?_
      refine e_al0 dX7_days_52 ?_
      refine e_get dX7_days_53 fX7_25 hO rfl ?_
      refine e_cv dX7_days_56 vX7_187 (m_X7_passes (by omega) (by omega) ok (by omega) hO hW (E1.at (by omega) hx3) (E1.at (by omega) hx4)) (by decide) rfl rfl (Nat.le_of_ble_eq_true rfl) jBud0 rfl hO ?_
      rintro _ h2 ⟨rfl, hW2, ⟨F2, Z2, hF2, hZ2⟩, E2⟩
      refine e_inc2N dX7_days_59 rfl ?_
      refine e_goto 42 dX7_days_62 (by decide) ?_
      have E : jEq h h2 (fun j => j = 218 ∨ j = 224 ∨ j = 225 ∨ j = 226 ∨ j = 227 ∨ j = 230 ∨ j = 231) := E1.tr E2 (fun j q => by omega) (fun j q => by omega)
      have c' : RI h2 (z_act S (s_pass S.2.2.1)) := c.now ⟨s0, s1, s2, s9⟩ (E2.at (by omega) hO) h8' hk' hW2 (rActs.eq E2 hA' (by omega)) ⟨⟨x1, (E1.tr E2 (R := fun j => j = 218 ∨ j = 224 ∨ j = 227 ∨ j = 230 ∨ j = 231) (fun j q => by omega) (fun j q => by omega)).at (by omega) hx1⟩, ⟨x2, (E1.tr E2 (R := fun j => j = 218 ∨ j = 224 ∨ j = 227 ∨ j = 230 ∨ j = 231) (fun j q => by omega) (fun j q => by omega)).at (by omega) hx2⟩, ⟨F2, hF2⟩, ⟨Z2, hZ2⟩, ⟨x5, E.at (by omega) hx5⟩, x6, E.at (by omega) hx6⟩ E
      have g' : SG (z_act S (s_pass S.2.2.1)) := SG_act g (s_pass_ok ok) (by rw [s_pass_4]; omega) gh
      exact ih (i + 1) _ (z_act S (s_pass S.2.2.1)) (by omega) (by omega) c' g' (by show s_pass S.2.2.1 4 + _ ≤ _; rw [s_pass_4]; omega) (by rw [← hr, show m - i = (m - (i + 1)) + 1 by omega]; rfl) (E0.tr E (R := jHi) (fun j q => q) (fun j q => by unfold jHi; omega))
set_option maxRecDepth 100000 in
set_option maxHeartbeats 4000000 in
theorem r_days {h : jH} {S : jS} (c : RI h S) (g : SG S) {n : Int32} : jM yX7_days cX7_days 3 (some .int) 4 none [.ref 218, .int n] h (rAns h (sp_days n S)) := by
  obtain ⟨⟨s, hO, s0, s1, s2, s8, s9⟩, c2, c3, hW, c5, c6, c7, c8⟩ := id c
  obtain ⟨g0, g1, g2, ⟨ok, gd, gh⟩, ⟨ga, gp⟩, gi, gt⟩ := id g
  obtain ⟨k0, k1, k2, k3, k4, k5⟩ := id ok
  obtain ⟨B, hB, hb⟩ := id c3
  obtain ⟨Pa, hP, hPa⟩ := id c5
  obtain ⟨Im, Kk, hI1, hI2, hI3, hI4⟩ := id c6
  obtain ⟨⟨x1, hx1⟩, ⟨x2, hx2⟩, ⟨x3, hx3⟩, ⟨x4, hx4⟩, ⟨x5, hx5⟩, x6, hx6⟩ := id c7
  obtain ⟨tf, ht1, ht2⟩ := id c8
  refine jM.ofF (by decide +kernel) rfl (Nat.le_of_ble_eq_true rfl) (fun X hX hI => ?_)
  show jV cX7_days RX7 4 X none 0 [some (.ref 218), some (.int n), none] [] h
  refine e_al0 dX7_days_0 ?_
  refine e_cv dX7_days_1 vX7_180 (m_X7_isHouse hO hW (by omega)) (by decide) rfl rfl (Nat.le_of_ble_eq_true rfl) jBud0 rfl hO ?_
  rintro _ _ ⟨rfl, rfl⟩
  refine e_if_neB 10 dX7_days_4 (by decide) (fun c_4 => ?_) (fun c_4 => ?_)
  · refine e_il1 dX7_days_10 ?_
    refine e_iconst (nI 1) dX7_days_11 (by decide) ?_
    refine e_bipush (nI 24) dX7_days_12 (by decide) ?_
    refine e_cs dX7_days_14 sX7_65 (m_X7_inR (by decide) (by decide)) (by decide) rfl rfl (Nat.le_of_ble_eq_true rfl) jBud0 ?_
    rintro _ _ ⟨rfl, rfl⟩
    refine e_if_neB 23 dX7_days_17 (by decide) (fun c_17 => ?_) (fun c_17 => ?_)
    · obtain ⟨m, lm, hm, rfl⟩ := iR_of c_17 (by decide)
      have em : (nI m).toNatClampNeg = m := nI_clamp (by omega)
      refine e_al0 dX7_days_23 ?_
      refine e_get dX7_days_24 fX7_25 hO rfl ?_
      refine e_iconst (nI 4) dX7_days_27 (by decide) ?_
      refine e_ialdN dX7_days_28 hW (by omega) (by decide) ?_
      refine e_il1 dX7_days_29 ?_
      refine e_iaddN dX7_days_30 ?_
      refine e_sipush (nI 9999) dX7_days_31 (by decide) ?_
      refine e_ic_leN 40 dX7_days_34 (by decide) (by omega) (by omega) (fun c_34 => ?_) (fun c_34 => ?_)
      · refine e_iconst (nI 0) dX7_days_40 (by decide) ?_
        refine e_is2 dX7_days_41 rfl ?_
        have hsp : sp_days (nI m) S = (nI (s_lit (s_daysN m S).2.2.1 ((s_daysN m S).2.2.1 2)), s_daysN m S) := by
          rw [sp_days, if_pos (gh.mpr c_4), if_pos c_17, em, if_pos (by omega)]
        rw [hsp] at hX
        exact lp_X7_days (by omega) hX (m + 1) 0 h S (by omega) (by omega) c g (by omega) rfl jEq.rf
      · refine e_ldc dX7_days_37 kX7_94 ?_
        exact e_iret hX dX7_days_39 (by
          rw [sp_days, if_pos (gh.mpr c_4), if_pos c_17, em, if_neg (by omega)]
          exact rAns.same c rfl) (fun z => z)
    · refine e_ldc dX7_days_20 kX7_73 ?_
      exact e_iret hX dX7_days_22 (by rw [sp_days, if_pos (gh.mpr c_4), if_neg c_17]; exact rAns.same c rfl) (fun z => z)
  · refine e_ldc dX7_days_7 kX7_183 ?_
    exact e_iret hX dX7_days_9 (by rw [sp_days, if_neg (fun q => c_4 (gh.mp q))]; exact rAns.same c rfl) (fun z => z)
