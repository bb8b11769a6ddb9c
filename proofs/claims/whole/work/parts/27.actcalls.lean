theorem HC.hsetf {h h1 : jH} {o : Nat} {w : hw} {f k b p g z f' : Nat → Nat} (hh : h1 = h.set (o + 1) (jN 8 f')) (hC : HC h o w f k b p g z) : HC h1 o w f' k b p g z := by rw [hh]; exact hC.setf
theorem HC.hsetk {h h1 : jH} {o : Nat} {w : hw} {f k b p g z k' : Nat → Nat} (hh : h1 = h.set (o + 2) (jN 7 k')) (hC : HC h o w f k b p g z) : HC h1 o w f k' b p g z := by rw [hh]; exact hC.setk
theorem HC.hsetb {h h1 : jH} {o : Nat} {w : hw} {f k b p g z b' : Nat → Nat} (hh : h1 = h.set (o + 3) (jN 7 b')) (hC : HC h o w f k b p g z) : HC h1 o w f k b' p g z := by rw [hh]; exact hC.setb
theorem HC.hsetp {h h1 : jH} {o : Nat} {w : hw} {f k b p g z p' : Nat → Nat} (hh : h1 = h.set (o + 4) (jN 7 p')) (hC : HC h o w f k b p g z) : HC h1 o w f k b p' g z := by rw [hh]; exact hC.setp
theorem HC.hsetg {h h1 : jH} {o : Nat} {w : hw} {f k b p g z g' : Nat → Nat} (hh : h1 = h.set (o + 5) (jN 7 g')) (hC : HC h o w f k b p g z) : HC h1 o w f k b p g' z := by rw [hh]; exact hC.setg
theorem HC.hsetz {h h1 : jH} {o : Nat} {w : hw} {f k b p g z z' : Nat → Nat} (hh : h1 = h.set (o + 6) (jN 8 z')) (hC : HC h o w f k b p g z) : HC h1 o w f k b p g z' := by rw [hh]; exact hC.setz
set_option maxRecDepth 100000 in
set_option maxHeartbeats 4000000 in
theorem c_status {h : jH} {S : jS} (c : CI h S) (g : SG S)  : jM yX6_status cX6_status 1 (some .int) 0 none [.ref 0] h (cAns h ((fun S : jS => nI S.1.1) S, S)) := by
  obtain ⟨c1, c2, c3, c4, c5, c6, c7, c8⟩ := id c
  obtain ⟨g0, g1, g2, ⟨ok, gd, gh⟩, ⟨ga, gp⟩, gi, gt⟩ := id g
  obtain ⟨k0, k1, k2, k3, k4, k5⟩ := id ok
  obtain ⟨f, k, b, p, gg, z, hC, hV⟩ := id c4
  obtain ⟨nx, rf, hnx, hac, -⟩ := id c5
  obtain ⟨⟨at_, ht⟩, hx6, B, hB, hb⟩ := id c3
  obtain ⟨⟨rfi, hi1, hi2⟩, hi3⟩ := id c6
  obtain ⟨hk1, fk_, hk2, hk3⟩ := id c8
  refine jM.ofF (by decide +kernel) rfl (Nat.le_of_ble_eq_true rfl) (fun X hX hI => ?_)
  show jV cX6_status RX6 0 X none 0 [some (.ref 0)] [] h
  refine e_al0 dX6_status_0 ?_
  refine e_get dX6_status_1 fX6_55 c1 rfl ?_
  exact e_iret hX dX6_status_4 (cAns.same c rfl) (fun z => z)
set_option maxRecDepth 100000 in
set_option maxHeartbeats 4000000 in
theorem c_fault {h : jH} {S : jS} (c : CI h S) (g : SG S)  : jM yX6_fault cX6_fault 1 (some .int) 0 none [.ref 0] h (cAns h ((fun S : jS => nI S.2.1.2.2) S, S)) := by
  obtain ⟨c1, c2, c3, c4, c5, c6, c7, c8⟩ := id c
  obtain ⟨g0, g1, g2, ⟨ok, gd, gh⟩, ⟨ga, gp⟩, gi, gt⟩ := id g
  obtain ⟨k0, k1, k2, k3, k4, k5⟩ := id ok
  obtain ⟨f, k, b, p, gg, z, hC, hV⟩ := id c4
  obtain ⟨nx, rf, hnx, hac, -⟩ := id c5
  obtain ⟨⟨at_, ht⟩, hx6, B, hB, hb⟩ := id c3
  obtain ⟨⟨rfi, hi1, hi2⟩, hi3⟩ := id c6
  obtain ⟨hk1, fk_, hk2, hk3⟩ := id c8
  refine jM.ofF (by decide +kernel) rfl (Nat.le_of_ble_eq_true rfl) (fun X hX hI => ?_)
  show jV cX6_fault RX6 0 X none 0 [some (.ref 0)] [] h
  refine e_al0 dX6_fault_0 ?_
  refine e_get dX6_fault_1 fX6_19 c1 rfl ?_
  refine e_get dX6_fault_4 fX6_138 ht rfl ?_
  exact e_iret hX dX6_fault_7 (cAns.same c rfl) (fun z => z)
set_option maxRecDepth 100000 in
set_option maxHeartbeats 4000000 in
theorem c_kind {h : jH} {S : jS} (c : CI h S) (g : SG S) {x : Int32} : jM yX6_kind cX6_kind 2 (some .int) 2 none [.ref 0, .int x] h (cAns h (sp_kind x S, S)) := by
  obtain ⟨c1, c2, c3, c4, c5, c6, c7, c8⟩ := id c
  obtain ⟨g0, g1, g2, ⟨ok, gd, gh⟩, ⟨ga, gp⟩, gi, gt⟩ := id g
  obtain ⟨k0, k1, k2, k3, k4, k5⟩ := id ok
  obtain ⟨f, k, b, p, gg, z, hC, hV⟩ := id c4
  obtain ⟨nx, rf, hnx, hac, -⟩ := id c5
  obtain ⟨⟨at_, ht⟩, hx6, B, hB, hb⟩ := id c3
  obtain ⟨⟨rfi, hi1, hi2⟩, hi3⟩ := id c6
  obtain ⟨hk1, fk_, hk2, hk3⟩ := id c8
  refine jM.ofF (by decide +kernel) rfl (Nat.le_of_ble_eq_true rfl) (fun X hX hI => ?_)
  show jV cX6_kind RX6 2 X none 0 [some (.ref 0), some (.int x)] [] h
  refine e_al0 dX6_kind_0 ?_
  refine e_il1 dX6_kind_1 ?_
  refine e_cv dX6_kind_2 vX6_158 (m_X6_isPair c1 c4 (by omega)) (by decide) rfl rfl (Nat.le_of_ble_eq_true rfl) jBud0 rfl c1 ?_
  rintro _ _ ⟨rfl, rfl⟩
  refine e_if_neB 11 dX6_kind_5 (by decide) (fun c_5 => ?_) (fun c_5 => ?_)
  · obtain ⟨i, hi, rfl⟩ := iN_of c_5 (by omega)
    have ei : (nI i).toNatClampNeg = i := nI_clamp (by omega)
    refine e_al0 dX6_kind_11 ?_
    refine e_get dX6_kind_12 fX6_26 c1 rfl ?_
    refine e_get dX6_kind_15 fX6_256 hC.1 rfl ?_
    refine e_il1 dX6_kind_18 ?_
    refine e_ialdN dX6_kind_19 hC.2.2.1 (by omega) (by decide) ?_
    exact e_iret hX dX6_kind_20 (by
      rw [sp_kind, if_pos c_5, ei]
      exact cAns.same c (by rw [(hV.2 i hi).1])) (fun z => z)
  · refine e_ldc dX6_kind_8 kX6_67 ?_
    exact e_iret hX dX6_kind_10 (by rw [sp_kind, if_neg c_5]; exact cAns.same c rfl) (fun z => z)
set_option maxRecDepth 100000 in
set_option maxHeartbeats 4000000 in
theorem c_trace {h : jH} {S : jS} (c : CI h S) (g : SG S) {x : Int32} : jM yX6_trace cX6_trace 2 (some .int) 1 none [.ref 0, .int x] h (cAns h (sp_trace x S, S)) := by
  obtain ⟨c1, c2, c3, c4, c5, c6, c7, c8⟩ := id c
  obtain ⟨g0, g1, g2, ⟨ok, gd, gh⟩, ⟨ga, gp⟩, gi, gt⟩ := id g
  obtain ⟨k0, k1, k2, k3, k4, k5⟩ := id ok
  obtain ⟨f, k, b, p, gg, z, hC, hV⟩ := id c4
  obtain ⟨nx, rf, hnx, hac, -⟩ := id c5
  obtain ⟨⟨at_, ht⟩, hx6, B, hB, hb⟩ := id c3
  obtain ⟨⟨rfi, hi1, hi2⟩, hi3⟩ := id c6
  obtain ⟨hk1, fk_, hk2, hk3⟩ := id c8
  refine jM.ofF (by decide +kernel) rfl (Nat.le_of_ble_eq_true rfl) (fun X hX hI => ?_)
  show jV cX6_trace RX6 1 X none 0 [some (.ref 0), some (.int x)] [] h
  refine e_il1 dX6_trace_0 ?_
  refine e_iconst (nI 0) dX6_trace_1 (by decide) ?_
  refine e_al0 dX6_trace_2 ?_
  refine e_get dX6_trace_3 fX6_51 c1 rfl ?_
  refine e_get dX6_trace_6 fX6_267 hk1 rfl ?_
  refine e_iconst (nI 1) dX6_trace_9 (by decide) ?_
  refine e_isub dX6_trace_10 ?_
  refine e_cs dX6_trace_11 sX6_63 (m_X6_isWithinN (by omega)) (by decide) rfl rfl (Nat.le_of_ble_eq_true rfl) jBud0 ?_
  rintro _ _ ⟨rfl, rfl⟩
  refine e_if_neB 20 dX6_trace_14 (by decide) (fun c_14 => ?_) (fun c_14 => ?_)
  · obtain ⟨i, hi, rfl⟩ := iN_of c_14 (by omega)
    have ei : (nI i).toNatClampNeg = i := nI_clamp (by omega)
    refine e_al0 dX6_trace_20 ?_
    refine e_get dX6_trace_21 fX6_51 c1 rfl ?_
    refine e_get dX6_trace_24 fX6_270 hk1 rfl ?_
    refine e_il1 dX6_trace_27 ?_
    refine e_ialdN dX6_trace_28 hk2 (by omega) (by decide) ?_
    exact e_iret hX dX6_trace_29 (by
      rw [sp_trace, if_pos c_14, ei]
      exact cAns.same c (by rw [hk3 i hi])) (fun z => z)
  · refine e_ldc dX6_trace_17 kX6_218 ?_
    exact e_iret hX dX6_trace_19 (by rw [sp_trace, if_neg c_14]; exact cAns.same c rfl) (fun z => z)
set_option maxRecDepth 100000 in
set_option maxHeartbeats 4000000 in
theorem m_X5_isFull {h : jH} {tl : Nat} {a5 a6 : Value} (ht : h[5]? = some (jO 5 [.ref 6, .ref 13, .int (nI tl), a5, a6])) (hl : tl ≤ 100) : jM yX5_isFull cX5_isFull 1 (some .boolean) 0 none [.ref 5] h (jRt (.int (jb (tl = 100))) h) := by
  refine jM.ofF (by decide +kernel) rfl (Nat.le_of_ble_eq_true rfl) (fun X hX hI => ?_)
  show jV cX5_isFull RX5 0 X none 0 [some (.ref 5)] [] h
  refine e_al0 dX5_isFull_0 ?_
  refine e_get dX5_isFull_1 fX5_22 ht rfl ?_
  refine e_bipush (nI 100) dX5_isFull_4 (by decide) ?_
  refine e_ic_ltN 13 dX5_isFull_6 (by decide) (by omega) (by omega) (fun c_6 => ?_) (fun c_6 => ?_)
  · refine e_iconst (nI 0) dX5_isFull_13 (by decide) ?_
    exact e_zret hX dX5_isFull_14 rfl (by first | exact jRt_t (by omega) | exact jRt_f (by omega)) (fun z => z)
  · refine e_iconst (nI 1) dX5_isFull_9 (by decide) ?_
    refine e_goto 14 dX5_isFull_10 (by decide) ?_
    exact e_zret hX dX5_isFull_14 rfl (by first | exact jRt_t (by omega) | exact jRt_f (by omega)) (fun z => z)
set_option maxRecDepth 100000 in
set_option maxHeartbeats 4000000 in
theorem m_X5_put {h : jH} {tl x : Nat} {a5 a6 : Value} {B : Nat → Nat} (ht : h[5]? = some (jO 5 [.ref 6, .ref 13, .int (nI tl), a5, a6])) (hB : h[13]? = some (jN 100 B)) (hl : tl < 100) : jM yX5_put cX5_put 2 (some .int) 0 none [.ref 5, .int (nI x)] h (fun v h' => v = some (.int (nI (tl + 1))) ∧ h'[5]? = some (jO 5 [.ref 6, .ref 13, .int (nI (tl + 1)), a5, a6]) ∧ h'[13]? = some (jN 100 (va_up B tl x)) ∧ jEq h h' (fun j => j = 5 ∨ j = 13)) := by
  refine jM.ofF (by decide +kernel) rfl (Nat.le_of_ble_eq_true rfl) (fun X hX hI => ?_)
  show jV cX5_put RX5 0 X none 0 [some (.ref 5), some (.int (nI x))] [] h
  refine e_al0 dX5_put_0 ?_
  refine e_get dX5_put_1 fX5_18 ht rfl ?_
  refine e_al0 dX5_put_4 ?_
  refine e_get dX5_put_5 fX5_22 ht rfl ?_
  refine e_il1 dX5_put_8 ?_
  refine e_iastN dX5_put_9 hB (by omega) (by decide) ?_
  refine e_abs (fun h1 hh => ?_)
  replace ht := jhs hh ht (by omega)
  replace hB := jhs_at hh hB
  have E := jEq.hs hh (jEq.rf (h := h) (P := fun j => j = 5 ∨ j = 13)) (Or.inr rfl)
  clear hh
  refine e_al0 dX5_put_10 ?_
  refine e_dup dX5_put_11 rfl ?_
  refine e_get dX5_put_12 fX5_22 ht rfl ?_
  refine e_iconst (nI 1) dX5_put_15 (by decide) ?_
  refine e_iaddN dX5_put_16 ?_
  refine e_put dX5_put_17 fX5_22 ht (Nat.le_of_ble_eq_true rfl) (fun g => ⟨rfl, rfl⟩) ?_
  refine e_abs (fun h2 hh => ?_)
  replace ht := jhs_at hh ht
  replace hB := jhs hh hB (by omega)
  replace E := jEq.hs hh E (Or.inl rfl)
  clear hh
  refine e_al0 dX5_put_20 ?_
  refine e_get dX5_put_21 fX5_22 ht rfl ?_
  exact e_iret hX dX5_put_24 (⟨rfl, ht, hB, E⟩) (fun z => z)
set_option maxRecDepth 100000 in
set_option maxHeartbeats 4000000 in
theorem c_feed {h : jH} {S : jS} (c : CI h S) (g : SG S) {x : Int32} : jM yX6_feed cX6_feed 2 (some .int) 1 none [.ref 0, .int x] h (cAns h (sp_feed x S)) := by
  obtain ⟨c1, c2, c3, c4, c5, c6, c7, c8⟩ := id c
  obtain ⟨g0, g1, g2, ⟨ok, gd, gh⟩, ⟨ga, gp⟩, gi, gt⟩ := id g
  obtain ⟨k0, k1, k2, k3, k4, k5⟩ := id ok
  obtain ⟨f, k, b, p, gg, z, hC, hV⟩ := id c4
  obtain ⟨nx, rf, hnx, hac, -⟩ := id c5
  obtain ⟨⟨at_, ht⟩, hx6, B, hB, hb⟩ := id c3
  obtain ⟨⟨rfi, hi1, hi2⟩, hi3⟩ := id c6
  obtain ⟨hk1, fk_, hk2, hk3⟩ := id c8
  refine jM.ofF (by decide +kernel) rfl (Nat.le_of_ble_eq_true rfl) (fun X hX hI => ?_)
  show jV cX6_feed RX6 1 X none 0 [some (.ref 0), some (.int x)] [] h
  refine e_il1 dX6_feed_0 ?_
  refine e_iconst (nI 0) dX6_feed_1 (by decide) ?_
  refine e_sipush (nI 255) dX6_feed_2 (by decide) ?_
  refine e_cs dX6_feed_5 sX6_63 (m_X6_isWithinR (by decide) (by decide)) (by decide) rfl rfl (Nat.le_of_ble_eq_true rfl) jBud0 ?_
  rintro _ _ ⟨rfl, rfl⟩
  refine e_if_neB 14 dX6_feed_8 (by decide) (fun c_8 => ?_) (fun c_8 => ?_)
  · obtain ⟨i, li, hi, rfl⟩ := iR_of c_8 (by decide)
    have ei : (nI i).toNatClampNeg = i := nI_clamp (by omega)
    refine e_al0 dX6_feed_14 ?_
    refine e_get dX6_feed_15 fX6_19 c1 rfl ?_
    refine e_cv dX6_feed_18 vX6_108 (m_X5_isFull ht g2.1) (by decide) rfl rfl (Nat.le_of_ble_eq_true rfl) jBud0 rfl ht ?_
    rintro _ _ ⟨rfl, rfl⟩
    refine e_if_eqB 27 dX6_feed_21 (by decide) (fun c_21 => ?_) (fun c_21 => ?_)
    · refine e_al0 dX6_feed_27 ?_
      refine e_get dX6_feed_28 fX6_19 c1 rfl ?_
      refine e_il1 dX6_feed_31 ?_
      refine e_cv dX6_feed_32 vX6_113 (m_X5_put ht hB (by omega)) (by decide) rfl rfl (Nat.le_of_ble_eq_true rfl) jBud0 rfl ht ?_
      rintro _ h1 ⟨rfl, e1, e2, E⟩
      exact e_iret hX dX6_feed_35 (by
        rw [sp_feed, if_pos c_8, if_neg c_21, ei]
        refine ⟨rfl, ⟨cTop.eq E c1 (by omega), cRows.eq E c2 (fun j _ _ q => by omega), ⟨⟨at_, e1⟩, hx6.eq E (fun j a b => by unfold jIn at b; omega), _, e2, fun q hq => ?_⟩, cNow.eq E c4 (fun j _ _ q => by omega), cActs.eq E c5 (fun j _ _ q => by omega), cImg.eq E c6 (fun j _ _ q => by omega), cFor.eq E c7 (fun j _ _ q => by omega), cAsk.eq E c8 (fun j _ _ q => by omega)⟩, E.mono (fun j q => by unfold jLo; omega)⟩
        dsimp only at hq ⊢
        unfold va_up
        by_cases e : q = S.2.1.1
        · rw [if_pos e, if_pos e]
        · rw [if_neg e, if_neg e]; exact hb q (by omega)) (fun z => z)
    · refine e_ldc dX6_feed_24 kX6_112 ?_
      exact e_iret hX dX6_feed_26 (by
        rw [sp_feed, if_pos c_8, if_pos c_21]
        exact cAns.same c rfl) (fun z => z)
  · refine e_ldc dX6_feed_11 kX6_67 ?_
    exact e_iret hX dX6_feed_13 (by rw [sp_feed, if_neg c_8]; exact cAns.same c rfl) (fun z => z)
set_option maxRecDepth 100000 in
set_option maxHeartbeats 4000000 in
theorem c_peg {h : jH} {S : jS} (c : CI h S) (g : SG S) {x v : Int32} : jM yX6_peg cX6_peg 3 (some .int) 3 none [.ref 0, .int x, .int v] h (cAns h (sp_peg x v S)) := by
  obtain ⟨c1, c2, c3, c4, c5, c6, c7, c8⟩ := id c
  obtain ⟨g0, g1, g2, ⟨ok, gd, gh⟩, ⟨ga, gp⟩, gi, gt⟩ := id g
  obtain ⟨k0, k1, k2, k3, k4, k5⟩ := id ok
  obtain ⟨f, k, b, p, gg, z, hC, hV⟩ := id c4
  obtain ⟨nx, rf, hnx, hac, -⟩ := id c5
  obtain ⟨⟨at_, ht⟩, hx6, B, hB, hb⟩ := id c3
  obtain ⟨⟨rfi, hi1, hi2⟩, hi3⟩ := id c6
  obtain ⟨hk1, fk_, hk2, hk3⟩ := id c8
  refine jM.ofF (by decide +kernel) rfl (Nat.le_of_ble_eq_true rfl) (fun X hX hI => ?_)
  show jV cX6_peg RX6 3 X none 0 [some (.ref 0), some (.int x), some (.int v)] [] h
  refine e_al0 dX6_peg_0 ?_
  refine e_il1 dX6_peg_1 ?_
  refine e_cv dX6_peg_2 vX6_158 (m_X6_isPair c1 c4 (by omega)) (by decide) rfl rfl (Nat.le_of_ble_eq_true rfl) jBud0 rfl c1 ?_
  rintro _ _ ⟨rfl, rfl⟩
  refine e_if_eqB 17 dX6_peg_5 (by decide) (fun c_5 => ?_) (fun c_5 => ?_)
  · refine e_ldc dX6_peg_17 kX6_67 ?_
    exact e_iret hX dX6_peg_19 (by rw [sp_peg, if_neg c_5]; exact cAns.same c rfl) (fun z => z)
  · refine e_il2 dX6_peg_8 ?_
    refine e_iconst (nI 0) dX6_peg_9 (by decide) ?_
    refine e_iconst (nI 1) dX6_peg_10 (by decide) ?_
    refine e_cs dX6_peg_11 sX6_63 (m_X6_isWithinR (by decide) (by decide)) (by decide) rfl rfl (Nat.le_of_ble_eq_true rfl) jBud0 ?_
    rintro _ _ ⟨rfl, rfl⟩
    refine e_if_neB 20 dX6_peg_14 (by decide) (fun c_14 => ?_) (fun c_14 => ?_)
    · obtain ⟨i, hi, rfl⟩ := iN_of c_5 (by omega)
      have ei : (nI i).toNatClampNeg = i := nI_clamp (by omega)
      obtain ⟨v, lv, hv, rfl⟩ := iR_of c_14 (by decide)
      have ev : (nI v).toNatClampNeg = v := nI_clamp (by omega)
      have hgi := hV.2 i hi
      have k5i := k5 i hi
      refine e_al0 dX6_peg_20 ?_
      refine e_get dX6_peg_21 fX6_26 c1 rfl ?_
      refine e_get dX6_peg_24 fX6_161 hC.1 rfl ?_
      refine e_il1 dX6_peg_27 ?_
      refine e_ialdN dX6_peg_28 hC.2.2.2.2.2.1 (by omega) (by decide) ?_
      refine e_il2 dX6_peg_29 ?_
      refine e_ic_neN 36 dX6_peg_30 (by decide) (by omega) (by omega) (fun c_30 => ?_) (fun c_30 => ?_)
      · refine e_al0 dX6_peg_36 ?_
        refine e_get dX6_peg_37 fX6_33 c1 rfl ?_
        refine e_al0 dX6_peg_40 ?_
        refine e_get dX6_peg_41 fX6_26 c1 rfl ?_
        refine e_cv dX6_peg_44 vX6_148 (m_X0_keep c5 c4 k2 k3 ga) (by decide) rfl rfl (Nat.le_of_ble_eq_true rfl) jBud0 rfl hac ?_
        rintro _ h1 ⟨rfl, hK, hN, E1⟩
        obtain ⟨f, k, b, p, gg, z, hC, hV⟩ := id hN
        replace c1 := E1.at (by omega) c1
        refine e_al0 dX6_peg_47 ?_
        refine e_get dX6_peg_48 fX6_26 c1 rfl ?_
        refine e_get dX6_peg_51 fX6_161 hC.1 rfl ?_
        refine e_il1 dX6_peg_54 ?_
        refine e_il2 dX6_peg_55 ?_
        refine e_iastN dX6_peg_56 hC.2.2.2.2.2.1 (by omega) (by decide) ?_
        refine e_abs (fun h2 hh => ?_)
        have hC2 := HC.hsetg hh hC
        have E2 := jEq.hs hh (E1.mono (Q := fun j => 14 ≤ j ∧ j < 191) (fun j q => by omega)) ⟨by omega, by omega⟩
        have hK2 := cActs.eq (jEq.hs hh (jEq.rf (h := h1) (P := fun j => j = 19)) (by omega)) hK (fun j _ _ q => by omega)
        replace c1 := jhs hh c1 (by omega)
        refine e_al0 dX6_peg_57 ?_
        refine e_get dX6_peg_58 fX6_26 c1 rfl ?_
        refine e_cv dX6_peg_61 vX6_164 (m_X3_pegBits (hC2.w (va_up_ge (by omega))) (hV.setg (v := v) k2) (ok.peg hv)) (by decide) rfl rfl (Nat.le_of_ble_eq_true rfl) jBud0 rfl hC2.1 ?_
        rintro _ _ ⟨rfl, rfl⟩
        exact e_iret hX dX6_peg_64 (by
          rw [sp_peg, if_pos c_5, if_pos c_14, ei, ev, if_neg (by omega)]
          exact ⟨by rw [va_up_ge (by omega) 3 (by omega)], c.now ⟨_, _, _, _, _, _, hC2.w (va_up_ge (by omega)), hV.setg k2⟩ hK2 E2, E2.mono (fun j q => by unfold jLo; omega)⟩) (fun z => z)
      · refine e_ldc dX6_peg_33 kX6_144 ?_
        exact e_iret hX dX6_peg_35 (by
          rw [sp_peg, if_pos c_5, if_pos c_14, ei, ev, if_pos (by omega)]
          exact cAns.same c rfl) (fun z => z)
    · refine e_ldc dX6_peg_17 kX6_67 ?_
      exact e_iret hX dX6_peg_19 (by rw [sp_peg, if_pos c_5, if_neg c_14]; exact cAns.same c rfl) (fun z => z)
set_option maxRecDepth 100000 in
set_option maxHeartbeats 4000000 in
theorem c_move {h : jH} {S : jS} (c : CI h S) (g : SG S) {x y : Int32} : jM yX6_move cX6_move 4 (some .int) 3 none [.ref 0, .int x, .int y] h (cAns h (sp_move x y S)) := by
  obtain ⟨c1, c2, c3, c4, c5, c6, c7, c8⟩ := id c
  obtain ⟨g0, g1, g2, ⟨ok, gd, gh⟩, ⟨ga, gp⟩, gi, gt⟩ := id g
  obtain ⟨k0, k1, k2, k3, k4, k5⟩ := id ok
  obtain ⟨f, k, b, p, gg, z, hC, hV⟩ := id c4
  obtain ⟨nx, rf, hnx, hac, -⟩ := id c5
  obtain ⟨⟨at_, ht⟩, hx6, B, hB, hb⟩ := id c3
  obtain ⟨⟨rfi, hi1, hi2⟩, hi3⟩ := id c6
  obtain ⟨hk1, fk_, hk2, hk3⟩ := id c8
  refine jM.ofF (by decide +kernel) rfl (Nat.le_of_ble_eq_true rfl) (fun X hX hI => ?_)
  show jV cX6_move RX6 3 X none 0 [some (.ref 0), some (.int x), some (.int y), none] [] h
  refine e_al0 dX6_move_0 ?_
  refine e_il1 dX6_move_1 ?_
  refine e_cv dX6_move_2 vX6_158 (m_X6_isPair c1 c4 (by omega)) (by decide) rfl rfl (Nat.le_of_ble_eq_true rfl) jBud0 rfl c1 ?_
  rintro _ _ ⟨rfl, rfl⟩
  refine e_if_eqB 16 dX6_move_5 (by decide) (fun c_5 => ?_) (fun c_5 => ?_)
  · refine e_ldc dX6_move_16 kX6_67 ?_
    exact e_iret hX dX6_move_18 (by rw [sp_move, if_neg c_5]; exact cAns.same c rfl) (fun z => z)
  · refine e_al0 dX6_move_8 ?_
    refine e_il2 dX6_move_9 ?_
    refine e_cv dX6_move_10 vX6_167 (m_X6_isHearth c1 c4 (by omega)) (by decide) rfl rfl (Nat.le_of_ble_eq_true rfl) jBud0 rfl c1 ?_
    rintro _ _ ⟨rfl, rfl⟩
    refine e_if_neB 19 dX6_move_13 (by decide) (fun c_13 => ?_) (fun c_13 => ?_)
    · obtain ⟨i, hi, rfl⟩ := iN_of c_5 (by omega)
      have ei : (nI i).toNatClampNeg = i := nI_clamp (by omega)
      obtain ⟨v, hv, rfl⟩ := iN_of c_13 (by omega)
      have ev : (nI v).toNatClampNeg = v := nI_clamp (by omega)
      have hgi := hV.2 i hi
      have k5i := k5 i hi
      refine e_al0 dX6_move_19 ?_
      refine e_get dX6_move_20 fX6_26 c1 rfl ?_
      refine e_get dX6_move_23 fX6_170 hC.1 rfl ?_
      refine e_il1 dX6_move_26 ?_
      refine e_ialdN dX6_move_27 hC.2.2.2.2.1 (by omega) (by decide) ?_
      refine e_is3 dX6_move_28 rfl ?_
      refine e_il3 dX6_move_29 ?_
      refine e_il2 dX6_move_30 ?_
      refine e_ic_neN 37 dX6_move_31 (by decide) (by omega) (by omega) (fun c_31 => ?_) (fun c_31 => ?_)
      · refine e_al0 dX6_move_37 ?_
        refine e_get dX6_move_38 fX6_33 c1 rfl ?_
        refine e_al0 dX6_move_41 ?_
        refine e_get dX6_move_42 fX6_26 c1 rfl ?_
        refine e_cv dX6_move_45 vX6_148 (m_X0_keep c5 c4 k2 k3 ga) (by decide) rfl rfl (Nat.le_of_ble_eq_true rfl) jBud0 rfl hac ?_
        rintro _ h1 ⟨rfl, hK, hN, E1⟩
        obtain ⟨f, k, b, p, gg, z, hC, hV⟩ := id hN
        replace c1 := E1.at (by omega) c1
        refine e_al0 dX6_move_48 ?_
        refine e_get dX6_move_49 fX6_26 c1 rfl ?_
        refine e_get dX6_move_52 fX6_170 hC.1 rfl ?_
        refine e_il1 dX6_move_55 ?_
        refine e_il2 dX6_move_56 ?_
        refine e_iastN dX6_move_57 hC.2.2.2.2.1 (by omega) (by decide) ?_
        refine e_abs (fun h2 hh => ?_)
        have hC2 := HC.hsetp hh hC
        have E2 := jEq.hs hh (E1.mono (Q := fun j => 14 ≤ j ∧ j < 191) (fun j q => by omega)) ⟨by omega, by omega⟩
        have hK2 := cActs.eq (jEq.hs hh (jEq.rf (h := h1) (P := fun j => j = 18)) (by omega)) hK (fun j _ _ q => by omega)
        replace c1 := jhs hh c1 (by omega)
        refine e_il3 dX6_move_58 ?_
        exact e_iret hX dX6_move_59 (by
          rw [sp_move, if_pos c_5, if_pos c_13, ei, ev, if_neg (by omega), ← hgi.2.2.1]
          exact ⟨rfl, c.now ⟨_, _, _, _, _, _, hC2.w (va_up_ge (by omega)), hV.setp k2⟩ hK2 E2, E2.mono (fun j q => by unfold jLo; omega)⟩) (fun z => z)
      · refine e_ldc dX6_move_34 kX6_144 ?_
        exact e_iret hX dX6_move_36 (by
          rw [sp_move, if_pos c_5, if_pos c_13, ei, ev, if_pos (by omega)]
          exact cAns.same c rfl) (fun z => z)
    · refine e_ldc dX6_move_16 kX6_67 ?_
      exact e_iret hX dX6_move_18 (by rw [sp_move, if_pos c_5, if_neg c_13]; exact cAns.same c rfl) (fun z => z)
set_option maxRecDepth 100000 in
set_option maxHeartbeats 4000000 in
theorem c_light {h : jH} {S : jS} (c : CI h S) (g : SG S) {x v : Int32} : jM yX6_light cX6_light 4 (some .int) 3 none [.ref 0, .int x, .int v] h (cAns h (sp_light x v S)) := by
  obtain ⟨c1, c2, c3, c4, c5, c6, c7, c8⟩ := id c
  obtain ⟨g0, g1, g2, ⟨ok, gd, gh⟩, ⟨ga, gp⟩, gi, gt⟩ := id g
  obtain ⟨k0, k1, k2, k3, k4, k5⟩ := id ok
  obtain ⟨f, k, b, p, gg, z, hC, hV⟩ := id c4
  obtain ⟨nx, rf, hnx, hac, -⟩ := id c5
  obtain ⟨⟨at_, ht⟩, hx6, B, hB, hb⟩ := id c3
  obtain ⟨⟨rfi, hi1, hi2⟩, hi3⟩ := id c6
  obtain ⟨hk1, fk_, hk2, hk3⟩ := id c8
  refine jM.ofF (by decide +kernel) rfl (Nat.le_of_ble_eq_true rfl) (fun X hX hI => ?_)
  show jV cX6_light RX6 3 X none 0 [some (.ref 0), some (.int x), some (.int v), none] [] h
  refine e_al0 dX6_light_0 ?_
  refine e_il1 dX6_light_1 ?_
  refine e_cv dX6_light_2 vX6_167 (m_X6_isHearth c1 c4 (by omega)) (by decide) rfl rfl (Nat.le_of_ble_eq_true rfl) jBud0 rfl c1 ?_
  rintro _ _ ⟨rfl, rfl⟩
  refine e_if_eqB 18 dX6_light_5 (by decide) (fun c_5 => ?_) (fun c_5 => ?_)
  · refine e_ldc dX6_light_18 kX6_67 ?_
    exact e_iret hX dX6_light_20 (by rw [sp_light, if_neg c_5]; exact cAns.same c rfl) (fun z => z)
  · refine e_il2 dX6_light_8 ?_
    refine e_iconst (nI 0) dX6_light_9 (by decide) ?_
    refine e_bipush (nI 20) dX6_light_10 (by decide) ?_
    refine e_cs dX6_light_12 sX6_63 (m_X6_isWithinR (by decide) (by decide)) (by decide) rfl rfl (Nat.le_of_ble_eq_true rfl) jBud0 ?_
    rintro _ _ ⟨rfl, rfl⟩
    refine e_if_neB 21 dX6_light_15 (by decide) (fun c_15 => ?_) (fun c_15 => ?_)
    · obtain ⟨i, hi, rfl⟩ := iN_of c_5 (by omega)
      have ei : (nI i).toNatClampNeg = i := nI_clamp (by omega)
      obtain ⟨v, lv, hv, rfl⟩ := iR_of c_15 (by decide)
      have ev : (nI v).toNatClampNeg = v := nI_clamp (by omega)
      have hfi := hV.1 i hi
      refine e_al0 dX6_light_21 ?_
      refine e_get dX6_light_22 fX6_26 c1 rfl ?_
      refine e_get dX6_light_25 fX6_173 hC.1 rfl ?_
      refine e_il1 dX6_light_28 ?_
      refine e_ialdN dX6_light_29 hC.2.1 (by omega) (by decide) ?_
      refine e_is3 dX6_light_30 rfl ?_
      refine e_al0 dX6_light_31 ?_
      refine e_get dX6_light_32 fX6_33 c1 rfl ?_
      refine e_al0 dX6_light_35 ?_
      refine e_get dX6_light_36 fX6_26 c1 rfl ?_
      refine e_cv dX6_light_39 vX6_148 (m_X0_keep c5 c4 k2 k3 ga) (by decide) rfl rfl (Nat.le_of_ble_eq_true rfl) jBud0 rfl hac ?_
      rintro _ h1 ⟨rfl, hK, hN, E1⟩
      obtain ⟨f, k, b, p, gg, z, hC, hV⟩ := id hN
      replace c1 := E1.at (by omega) c1
      refine e_al0 dX6_light_42 ?_
      refine e_get dX6_light_43 fX6_26 c1 rfl ?_
      refine e_get dX6_light_46 fX6_173 hC.1 rfl ?_
      refine e_il1 dX6_light_49 ?_
      refine e_il2 dX6_light_50 ?_
      refine e_iastN dX6_light_51 hC.2.1 (by omega) (by decide) ?_
      refine e_abs (fun h2 hh => ?_)
      have hC2 := HC.hsetf hh hC
      have E2 := jEq.hs hh (E1.mono (Q := fun j => 14 ≤ j ∧ j < 191) (fun j q => by omega)) ⟨by omega, by omega⟩
      have hK2 := cActs.eq (jEq.hs hh (jEq.rf (h := h1) (P := fun j => j = 15)) (by omega)) hK (fun j _ _ q => by omega)
      replace c1 := jhs hh c1 (by omega)
      refine e_il3 dX6_light_52 ?_
      exact e_iret hX dX6_light_53 (by
        rw [sp_light, if_pos c_5, if_pos c_15, ei, ev, ← hfi]
        exact ⟨rfl, c.now ⟨_, _, _, _, _, _, hC2.w (va_up_ge (by omega)), hV.setf (by omega)⟩ hK2 E2, E2.mono (fun j q => by unfold jLo; omega)⟩) (fun z => z)
    · refine e_ldc dX6_light_18 kX6_67 ?_
      exact e_iret hX dX6_light_20 (by rw [sp_light, if_pos c_5, if_neg c_15]; exact cAns.same c rfl) (fun z => z)
set_option maxRecDepth 100000 in
set_option maxHeartbeats 4000000 in
theorem c_weather {h : jH} {S : jS} (c : CI h S) (g : SG S) {v : Int32} : jM yX6_weather cX6_weather 3 (some .int) 3 none [.ref 0, .int v] h (cAns h (sp_weather v S)) := by
  obtain ⟨c1, c2, c3, c4, c5, c6, c7, c8⟩ := id c
  obtain ⟨g0, g1, g2, ⟨ok, gd, gh⟩, ⟨ga, gp⟩, gi, gt⟩ := id g
  obtain ⟨k0, k1, k2, k3, k4, k5⟩ := id ok
  obtain ⟨f, k, b, p, gg, z, hC, hV⟩ := id c4
  obtain ⟨nx, rf, hnx, hac, -⟩ := id c5
  obtain ⟨⟨at_, ht⟩, hx6, B, hB, hb⟩ := id c3
  obtain ⟨⟨rfi, hi1, hi2⟩, hi3⟩ := id c6
  obtain ⟨hk1, fk_, hk2, hk3⟩ := id c8
  refine jM.ofF (by decide +kernel) rfl (Nat.le_of_ble_eq_true rfl) (fun X hX hI => ?_)
  show jV cX6_weather RX6 3 X none 0 [some (.ref 0), some (.int v), none] [] h
  refine e_al0 dX6_weather_0 ?_
  refine e_get dX6_weather_1 fX6_26 c1 rfl ?_
  refine e_cv dX6_weather_4 vX6_141 (m_X3_stands hC (by omega)) (by decide) rfl rfl (Nat.le_of_ble_eq_true rfl) jBud0 rfl hC.1 ?_
  rintro _ _ ⟨rfl, rfl⟩
  refine e_if_neB 13 dX6_weather_7 (by decide) (fun c_7 => ?_) (fun c_7 => ?_)
  · refine e_il1 dX6_weather_13 ?_
    refine e_iconst (nI 0) dX6_weather_14 (by decide) ?_
    refine e_bipush (nI 15) dX6_weather_15 (by decide) ?_
    refine e_cs dX6_weather_17 sX6_63 (m_X6_isWithinR (by decide) (by decide)) (by decide) rfl rfl (Nat.le_of_ble_eq_true rfl) jBud0 ?_
    rintro _ _ ⟨rfl, rfl⟩
    refine e_if_neB 26 dX6_weather_20 (by decide) (fun c_20 => ?_) (fun c_20 => ?_)
    · obtain ⟨v, lv, hv, rfl⟩ := iR_of c_20 (by decide)
      have ev : (nI v).toNatClampNeg = v := nI_clamp (by omega)
      refine e_al0 dX6_weather_26 ?_
      refine e_get dX6_weather_27 fX6_26 c1 rfl ?_
      refine e_get dX6_weather_30 fX6_176 hC.1 rfl ?_
      refine e_is2 dX6_weather_33 rfl ?_
      refine e_al0 dX6_weather_34 ?_
      refine e_get dX6_weather_35 fX6_33 c1 rfl ?_
      refine e_al0 dX6_weather_38 ?_
      refine e_get dX6_weather_39 fX6_26 c1 rfl ?_
      refine e_cv dX6_weather_42 vX6_148 (m_X0_keep c5 c4 k2 k3 ga) (by decide) rfl rfl (Nat.le_of_ble_eq_true rfl) jBud0 rfl hac ?_
      rintro _ h1 ⟨rfl, hK, hN, E1⟩
      obtain ⟨f, k, b, p, gg, z, hC, hV⟩ := id hN
      replace c1 := E1.at (by omega) c1
      refine e_al0 dX6_weather_45 ?_
      refine e_get dX6_weather_46 fX6_26 c1 rfl ?_
      refine e_il1 dX6_weather_49 ?_
      refine e_put dX6_weather_50 fX6_176 hC.1 (Nat.le_of_ble_eq_true rfl) (fun g => ⟨rfl, rfl⟩) ?_
      refine e_abs (fun h2 hh => ?_)
      have hC2 : HC h2 14 (va_up S.2.2.1 0 v) f k b p gg z := by rw [hh]; exact hC.set0 (w' := va_up S.2.2.1 0 v)
      have E2 := jEq.hs hh (E1.mono (Q := fun j => 14 ≤ j ∧ j < 191) (fun j q => by omega)) ⟨by omega, by omega⟩
      have hK2 := cActs.eq (jEq.hs hh (jEq.rf (h := h1) (P := fun j => j = 14)) (by omega)) hK (fun j _ _ q => by omega)
      refine e_il2 dX6_weather_53 ?_
      exact e_iret hX dX6_weather_54 (by
        rw [sp_weather, if_pos c_7, if_pos c_20, ev]
        exact ⟨rfl, c.now ⟨_, _, _, _, _, _, hC2, hV.set0⟩ hK2 E2, E2.mono (fun j q => by unfold jLo; omega)⟩) (fun z => z)
    · refine e_ldc dX6_weather_23 kX6_67 ?_
      exact e_iret hX dX6_weather_25 (by rw [sp_weather, if_pos c_7, if_neg c_20]; exact cAns.same c rfl) (fun z => z)
  · refine e_ldc dX6_weather_10 kX6_144 ?_
    exact e_iret hX dX6_weather_12 (by rw [sp_weather, if_neg c_7]; exact cAns.same c rfl) (fun z => z)
set_option maxRecDepth 100000 in
set_option maxHeartbeats 4000000 in
theorem c_undo {h : jH} {S : jS} (c : CI h S) (g : SG S)  : jM yX6_undo cX6_undo 1 (some .int) 3 none [.ref 0] h (cAns h (sp_undo S)) := by
  obtain ⟨c1, c2, c3, c4, c5, c6, c7, c8⟩ := id c
  obtain ⟨g0, g1, g2, ⟨ok, gd, gh⟩, ⟨ga, gp⟩, gi, gt⟩ := id g
  obtain ⟨k0, k1, k2, k3, k4, k5⟩ := id ok
  obtain ⟨f, k, b, p, gg, z, hC, hV⟩ := id c4
  obtain ⟨nx, rf, hnx, hac, -⟩ := id c5
  obtain ⟨⟨at_, ht⟩, hx6, B, hB, hb⟩ := id c3
  obtain ⟨⟨rfi, hi1, hi2⟩, hi3⟩ := id c6
  obtain ⟨hk1, fk_, hk2, hk3⟩ := id c8
  refine jM.ofF (by decide +kernel) rfl (Nat.le_of_ble_eq_true rfl) (fun X hX hI => ?_)
  show jV cX6_undo RX6 3 X none 0 [some (.ref 0)] [] h
  refine e_al0 dX6_undo_0 ?_
  refine e_get dX6_undo_1 fX6_33 c1 rfl ?_
  refine e_get dX6_undo_4 fX6_179 hac rfl ?_
  refine e_if_neN 13 dX6_undo_7 (by decide) (by omega) (fun c_7 => ?_) (fun c_7 => ?_)
  · refine e_al0 dX6_undo_13 ?_
    refine e_get dX6_undo_14 fX6_33 c1 rfl ?_
    refine e_al0 dX6_undo_17 ?_
    refine e_get dX6_undo_18 fX6_26 c1 rfl ?_
    refine e_cv dX6_undo_21 vX6_182 (m_X0_bringBack c5 c4 (gp _ (by omega)).1.2.2.1 (gp _ (by omega)).1.2.2.2.1 ga (by omega)) (by decide) rfl rfl (Nat.le_of_ble_eq_true rfl) jBud0 rfl hac ?_
    rintro _ h1 ⟨rfl, hK, hN, E1⟩
    clear hac
    obtain ⟨nx2, rf2, hnx2, hac, -⟩ := id hK
    replace c1 := E1.at (by omega) c1
    refine e_al0 dX6_undo_24 ?_
    refine e_get dX6_undo_25 fX6_33 c1 rfl ?_
    refine e_get dX6_undo_28 fX6_179 hac rfl ?_
    exact e_iret hX dX6_undo_31 (by
      rw [sp_undo, if_neg (by omega)]
      exact ⟨rfl, c.now hN hK E1, E1.mono (fun j q => by unfold jLo; omega)⟩) (fun z => z)
  · refine e_ldc dX6_undo_10 kX6_144 ?_
    exact e_iret hX dX6_undo_12 (by
      rw [sp_undo, if_pos c_7]
      exact cAns.same c rfl) (fun z => z)
theorem sw_out4 {v : Int32} (h0 : ¬ v = 0) (h1 : ¬ v = 1) (h2 : ¬ v = 2) (h3 : ¬ v = 3) : v.toInt < 0 ∨ 3 < v.toInt := by
  rw [fa_eq] at h0 h1 h2 h3
  have e0 : (0 : Int32).toInt = 0 := by decide
  have e1 : (1 : Int32).toInt = 1 := by decide
  have e2 : (2 : Int32).toInt = 2 := by decide
  have e3 : (3 : Int32).toInt = 3 := by decide
  omega
theorem sw_out10 {v : Int32} (h0 : ¬ v = 0) (h1 : ¬ v = 1) (h2 : ¬ v = 2) (h3 : ¬ v = 3) (h4 : ¬ v = 4) (h5 : ¬ v = 5) (h6 : ¬ v = 6) (h7 : ¬ v = 7) (h8 : ¬ v = 8) (h9 : ¬ v = 9) : v.toInt < 0 ∨ 9 < v.toInt := by
  rw [fa_eq] at h0 h1 h2 h3 h4 h5 h6 h7 h8 h9
  have e0 : (0 : Int32).toInt = 0 := by decide
  have e1 : (1 : Int32).toInt = 1 := by decide
  have e2 : (2 : Int32).toInt = 2 := by decide
  have e3 : (3 : Int32).toInt = 3 := by decide
  have e4 : (4 : Int32).toInt = 4 := by decide
  have e5 : (5 : Int32).toInt = 5 := by decide
  have e6 : (6 : Int32).toInt = 6 := by decide
  have e7 : (7 : Int32).toInt = 7 := by decide
  have e8 : (8 : Int32).toInt = 8 := by decide
  have e9 : (9 : Int32).toInt = 9 := by decide
  omega
set_option maxRecDepth 100000 in
set_option maxHeartbeats 4000000 in
theorem c_pair {h : jH} {S : jS} (c : CI h S) (g : SG S) {x v : Int32} : jM yX6_pair cX6_pair 3 (some .int) 3 none [.ref 0, .int x, .int v] h (cAns h (sp_pair x v S, S)) := by
  obtain ⟨c1, c2, c3, c4, c5, c6, c7, c8⟩ := id c
  obtain ⟨g0, g1, g2, ⟨ok, gd, gh⟩, ⟨ga, gp⟩, gi, gt⟩ := id g
  obtain ⟨k0, k1, k2, k3, k4, k5⟩ := id ok
  obtain ⟨f, k, b, p, gg, z, hC, hV⟩ := id c4
  obtain ⟨nx, rf, hnx, hac, -⟩ := id c5
  obtain ⟨⟨at_, ht⟩, hx6, B, hB, hb⟩ := id c3
  obtain ⟨⟨rfi, hi1, hi2⟩, hi3⟩ := id c6
  obtain ⟨hk1, fk_, hk2, hk3⟩ := id c8
  refine jM.ofF (by decide +kernel) rfl (Nat.le_of_ble_eq_true rfl) (fun X hX hI => ?_)
  show jV cX6_pair RX6 3 X none 0 [some (.ref 0), some (.int x), some (.int v)] [] h
  refine e_al0 dX6_pair_0 ?_
  refine e_il1 dX6_pair_1 ?_
  refine e_cv dX6_pair_2 vX6_158 (m_X6_isPair c1 c4 (by omega)) (by decide) rfl rfl (Nat.le_of_ble_eq_true rfl) jBud0 rfl c1 ?_
  rintro _ _ ⟨rfl, rfl⟩
  refine e_if_neB 11 dX6_pair_5 (by decide) (fun c_5 => ?_) (fun c_5 => ?_)
  · obtain ⟨i, hi, rfl⟩ := iN_of c_5 (by omega)
    have ei : (nI i).toNatClampNeg = i := nI_clamp (by omega)
    have hgi := hV.2 i hi
    refine e_il2 dX6_pair_11 ?_
    by_cases q_12_0 : v = 0
    · rw [q_12_0]
      refine e_tin 44 dX6_pair_12 (by decide) (by decide) rfl (by decide) ?_
      refine e_al0 dX6_pair_44 ?_
      refine e_get dX6_pair_45 fX6_26 c1 rfl ?_
      refine e_get dX6_pair_48 fX6_185 hC.1 rfl ?_
      refine e_il1 dX6_pair_51 ?_
      refine e_ialdN dX6_pair_52 hC.2.2.2.1 (by omega) (by decide) ?_
      exact e_iret hX dX6_pair_53 (by rw [sp_pair, if_pos c_5, if_pos q_12_0, ei]; exact cAns.same c (by rw [hgi.2.1])) (fun z => z)
    · skip
      by_cases q_12_1 : v = 1
      · rw [q_12_1]
        refine e_tin 54 dX6_pair_12 (by decide) (by decide) rfl (by decide) ?_
        refine e_al0 dX6_pair_54 ?_
        refine e_get dX6_pair_55 fX6_26 c1 rfl ?_
        refine e_get dX6_pair_58 fX6_170 hC.1 rfl ?_
        refine e_il1 dX6_pair_61 ?_
        refine e_ialdN dX6_pair_62 hC.2.2.2.2.1 (by omega) (by decide) ?_
        exact e_iret hX dX6_pair_63 (by rw [sp_pair, if_pos c_5, if_neg q_12_0, if_pos q_12_1, ei]; exact cAns.same c (by rw [hgi.2.2.1])) (fun z => z)
      · skip
        by_cases q_12_2 : v = 2
        · rw [q_12_2]
          refine e_tin 64 dX6_pair_12 (by decide) (by decide) rfl (by decide) ?_
          refine e_al0 dX6_pair_64 ?_
          refine e_get dX6_pair_65 fX6_26 c1 rfl ?_
          refine e_get dX6_pair_68 fX6_161 hC.1 rfl ?_
          refine e_il1 dX6_pair_71 ?_
          refine e_ialdN dX6_pair_72 hC.2.2.2.2.2.1 (by omega) (by decide) ?_
          exact e_iret hX dX6_pair_73 (by rw [sp_pair, if_pos c_5, if_neg q_12_0, if_neg q_12_1, if_pos q_12_2, ei]; exact cAns.same c (by rw [hgi.2.2.2])) (fun z => z)
        · skip
          by_cases q_12_3 : v = 3
          · rw [q_12_3]
            refine e_tin 74 dX6_pair_12 (by decide) (by decide) rfl (by decide) ?_
            refine e_al0 dX6_pair_74 ?_
            refine e_get dX6_pair_75 fX6_26 c1 rfl ?_
            refine e_il1 dX6_pair_78 ?_
            refine e_cv dX6_pair_79 vX6_188 (m_X3_changeOf hC hV ok hi (by omega)) (by decide) rfl rfl (Nat.le_of_ble_eq_true rfl) jBud0 rfl hC.1 ?_
            rintro _ _ ⟨rfl, rfl⟩
            exact e_iret hX dX6_pair_82 (by rw [sp_pair, if_pos c_5, if_neg q_12_0, if_neg q_12_1, if_neg q_12_2, if_pos q_12_3, ei]; exact cAns.same c (rfl)) (fun z => z)
          · skip
            refine e_tout 83 dX6_pair_12 (sw_out4 q_12_0 q_12_1 q_12_2 q_12_3) (by decide) ?_
            refine e_ldc dX6_pair_83 kX6_67 ?_
            exact e_iret hX dX6_pair_85 (by rw [sp_pair, if_pos c_5, if_neg q_12_0, if_neg q_12_1, if_neg q_12_2, if_neg q_12_3]; exact cAns.same c (rfl)) (fun z => z)
  · refine e_ldc dX6_pair_8 kX6_67 ?_
    exact e_iret hX dX6_pair_10 (by rw [sp_pair, if_neg c_5]; exact cAns.same c (rfl)) (fun z => z)
set_option maxRecDepth 100000 in
set_option maxHeartbeats 4000000 in
theorem c_hearth {h : jH} {S : jS} (c : CI h S) (g : SG S) {x v : Int32} : jM yX6_hearth cX6_hearth 3 (some .int) 4 none [.ref 0, .int x, .int v] h (cAns h (sp_hearth x v S, S)) := by
  obtain ⟨c1, c2, c3, c4, c5, c6, c7, c8⟩ := id c
  obtain ⟨g0, g1, g2, ⟨ok, gd, gh⟩, ⟨ga, gp⟩, gi, gt⟩ := id g
  obtain ⟨k0, k1, k2, k3, k4, k5⟩ := id ok
  obtain ⟨f, k, b, p, gg, z, hC, hV⟩ := id c4
  obtain ⟨nx, rf, hnx, hac, -⟩ := id c5
  obtain ⟨⟨at_, ht⟩, hx6, B, hB, hb⟩ := id c3
  obtain ⟨⟨rfi, hi1, hi2⟩, hi3⟩ := id c6
  obtain ⟨hk1, fk_, hk2, hk3⟩ := id c8
  refine jM.ofF (by decide +kernel) rfl (Nat.le_of_ble_eq_true rfl) (fun X hX hI => ?_)
  show jV cX6_hearth RX6 4 X none 0 [some (.ref 0), some (.int x), some (.int v)] [] h
  refine e_al0 dX6_hearth_0 ?_
  refine e_il1 dX6_hearth_1 ?_
  refine e_cv dX6_hearth_2 vX6_167 (m_X6_isHearth c1 c4 (by omega)) (by decide) rfl rfl (Nat.le_of_ble_eq_true rfl) jBud0 rfl c1 ?_
  rintro _ _ ⟨rfl, rfl⟩
  refine e_if_neB 11 dX6_hearth_5 (by decide) (fun c_5 => ?_) (fun c_5 => ?_)
  · obtain ⟨i, hi, rfl⟩ := iN_of c_5 (by omega)
    have ei : (nI i).toNatClampNeg = i := nI_clamp (by omega)
    have hfi := hV.1 i hi
    refine e_il2 dX6_hearth_11 ?_
    by_cases q_12_0 : v = 0
    · rw [q_12_0]
      refine e_tin 44 dX6_hearth_12 (by decide) (by decide) rfl (by decide) ?_
      refine e_al0 dX6_hearth_44 ?_
      refine e_get dX6_hearth_45 fX6_26 c1 rfl ?_
      refine e_get dX6_hearth_48 fX6_173 hC.1 rfl ?_
      refine e_il1 dX6_hearth_51 ?_
      refine e_ialdN dX6_hearth_52 hC.2.1 (by omega) (by decide) ?_
      exact e_iret hX dX6_hearth_53 (by rw [sp_hearth, if_pos c_5, if_pos q_12_0, ei]; exact cAns.same c (by rw [hfi])) (fun z => z)
    · skip
      by_cases q_12_1 : v = 1
      · rw [q_12_1]
        refine e_tin 54 dX6_hearth_12 (by decide) (by decide) rfl (by decide) ?_
        refine e_al0 dX6_hearth_54 ?_
        refine e_get dX6_hearth_55 fX6_26 c1 rfl ?_
        refine e_il1 dX6_hearth_58 ?_
        refine e_cv dX6_hearth_59 vX6_191 (m_X3_isLit hC (i := i) (by omega) (by rw [hfi]; have := k4 i hi; omega)) (by decide) rfl rfl (Nat.le_of_ble_eq_true rfl) jBud0 rfl hC.1 ?_
        rintro _ _ ⟨rfl, rfl⟩
        refine e_if_eqB 69 dX6_hearth_62 (by decide) (fun c_62 => ?_) (fun c_62 => ?_)
        · refine e_iconst (nI 0) dX6_hearth_69 (by decide) ?_
          exact e_iret hX dX6_hearth_70 (by rw [sp_hearth, if_pos c_5, if_neg q_12_0, if_pos q_12_1, ei, jb_f (by rw [← hfi]; exact c_62)]; exact cAns.same c rfl) (fun z => z)
        · refine e_iconst (nI 1) dX6_hearth_65 (by decide) ?_
          refine e_goto 70 dX6_hearth_66 (by decide) ?_
          exact e_iret hX dX6_hearth_70 (by rw [sp_hearth, if_pos c_5, if_neg q_12_0, if_pos q_12_1, ei, jb_t (by rw [← hfi]; exact c_62)]; exact cAns.same c rfl) (fun z => z)
      · skip
        by_cases q_12_2 : v = 2
        · rw [q_12_2]
          refine e_tin 71 dX6_hearth_12 (by decide) (by decide) rfl (by decide) ?_
          refine e_al0 dX6_hearth_71 ?_
          refine e_get dX6_hearth_72 fX6_26 c1 rfl ?_
          refine e_il1 dX6_hearth_75 ?_
          refine e_cv dX6_hearth_76 vX6_194 (m_X3_pairBitsAt hC hV ok (by omega)) (by decide) rfl rfl (Nat.le_of_ble_eq_true rfl) jBud0 rfl hC.1 ?_
          rintro _ _ ⟨rfl, rfl⟩
          exact e_iret hX dX6_hearth_79 (by rw [sp_hearth, if_pos c_5, if_neg q_12_0, if_neg q_12_1, if_pos q_12_2, ei]; exact cAns.same c rfl) (fun z => z)
        · skip
          by_cases q_12_3 : v = 3
          · rw [q_12_3]
            refine e_tin 80 dX6_hearth_12 (by decide) (by decide) rfl (by decide) ?_
            refine e_al0 dX6_hearth_80 ?_
            refine e_get dX6_hearth_81 fX6_26 c1 rfl ?_
            refine e_il1 dX6_hearth_84 ?_
            refine e_cv dX6_hearth_85 vX6_197 (m_X3_blownInto c4 ok hi) (by decide) rfl rfl (Nat.le_of_ble_eq_true rfl) jBud0 rfl hC.1 ?_
            rintro _ h1 ⟨rfl, hN, E1⟩
            exact e_iret hX dX6_hearth_88 (by rw [sp_hearth, if_pos c_5, if_neg q_12_0, if_neg q_12_1, if_neg q_12_2, if_pos q_12_3, ei]; exact ⟨rfl, CI.now c hN (cActs.eq E1 c5 (fun j _ _ q => by unfold jIn at q; omega)) (E1.mono (fun j q => by unfold jIn at q; omega)), E1.mono (fun j q => by unfold jIn at q; unfold jLo; omega)⟩) (fun z => z)
          · skip
            refine e_tout 89 dX6_hearth_12 (sw_out4 q_12_0 q_12_1 q_12_2 q_12_3) (by decide) ?_
            refine e_ldc dX6_hearth_89 kX6_67 ?_
            exact e_iret hX dX6_hearth_91 (by rw [sp_hearth, if_pos c_5, if_neg q_12_0, if_neg q_12_1, if_neg q_12_2, if_neg q_12_3]; exact cAns.same c rfl) (fun z => z)
  · refine e_ldc dX6_hearth_8 kX6_67 ?_
    exact e_iret hX dX6_hearth_10 (by rw [sp_hearth, if_neg c_5]; exact cAns.same c rfl) (fun z => z)
set_option maxRecDepth 100000 in
set_option maxHeartbeats 4000000 in
theorem c_image {h : jH} {S : jS} (c : CI h S) (g : SG S) {x : Int32} : jM yX6_image cX6_image 2 (some .int) 2 none [.ref 0, .int x] h (cAns h (sp_image x S)) := by
  obtain ⟨c1, c2, c3, c4, c5, c6, c7, c8⟩ := id c
  obtain ⟨g0, g1, g2, ⟨ok, gd, gh⟩, ⟨ga, gp⟩, gi, gt⟩ := id g
  obtain ⟨k0, k1, k2, k3, k4, k5⟩ := id ok
  obtain ⟨f, k, b, p, gg, z, hC, hV⟩ := id c4
  obtain ⟨nx, rf, hnx, hac, -⟩ := id c5
  obtain ⟨⟨at_, ht⟩, hx6, B, hB, hb⟩ := id c3
  obtain ⟨⟨rfi, hi1, hi2⟩, hi3⟩ := id c6
  obtain ⟨hk1, fk_, hk2, hk3⟩ := id c8
  refine jM.ofF (by decide +kernel) rfl (Nat.le_of_ble_eq_true rfl) (fun X hX hI => ?_)
  show jV cX6_image RX6 2 X none 0 [some (.ref 0), some (.int x)] [] h
  refine e_il1 dX6_image_0 ?_
  refine e_iconst (nI 0) dX6_image_1 (by decide) ?_
  refine e_iconst (nI 1) dX6_image_2 (by decide) ?_
  refine e_cs dX6_image_3 sX6_63 (m_X6_isWithinR (by decide) (by decide)) (by decide) rfl rfl (Nat.le_of_ble_eq_true rfl) jBud0 ?_
  rintro _ _ ⟨rfl, rfl⟩
  refine e_if_neB 12 dX6_image_6 (by decide) (fun c_6 => ?_) (fun c_6 => ?_)
  · refine e_al0 dX6_image_12 ?_
    refine e_get dX6_image_13 fX6_26 c1 rfl ?_
    refine e_cv dX6_image_16 vX6_141 (m_X3_stands hC (by omega)) (by decide) rfl rfl (Nat.le_of_ble_eq_true rfl) jBud0 rfl hC.1 ?_
    rintro _ _ ⟨rfl, rfl⟩
    refine e_if_neB 25 dX6_image_19 (by decide) (fun c_19 => ?_) (fun c_19 => ?_)
    · obtain ⟨i, li, hi, rfl⟩ := iR_of c_6 (by decide)
      have ei : (nI i).toNatClampNeg = i := nI_clamp (by omega)
      refine e_al0 dX6_image_25 ?_
      refine e_get dX6_image_26 fX6_37 c1 rfl ?_
      refine e_il1 dX6_image_29 ?_
      refine e_aaldN dX6_image_30 hi1 (by omega) (by decide) (hi2 i (by omega)) ?_
      refine e_al0 dX6_image_31 ?_
      refine e_get dX6_image_32 fX6_26 c1 rfl ?_
      refine e_cv dX6_image_35 vX6_128 (m_become (hi3 i (by omega)).x c4 k2 k3 (by omega)) (by decide) rfl rfl (Nat.le_of_ble_eq_true rfl) jBud0 rfl (hi3 i (by omega)).sh.choose_spec ?_
      rintro _ h1 ⟨rfl, hB, E1⟩
      refine e_iconst (nI 1) dX6_image_38 (by decide) ?_
      exact e_iret hX dX6_image_39 (by
        rw [sp_image, if_pos c_6, if_pos c_19, ei]
        refine ⟨rfl, ⟨cTop.eq E1 c1 (by unfold jIn; omega), cRows.eq E1 c2 (fun j _ _ q => by unfold jIn at q; omega), cTape.eq E1 c3 (fun j _ _ q => by unfold jIn at q; omega), cNow.eq E1 c4 (fun j _ _ q => by unfold jIn at q; omega), cActs.eq E1 c5 (fun j _ _ q => by unfold jIn at q; omega), ⟨⟨rfi, E1.at (by unfold jIn; omega) hi1, hi2⟩, fun q hq => ?_⟩, cFor.eq E1 c7 (fun j _ _ q => by unfold jIn at q; omega), cAsk.eq E1 c8 (fun j _ _ q => by unfold jIn at q; omega)⟩, E1.mono (fun j q => by unfold jIn at q; unfold jLo; omega)⟩
        dsimp only
        by_cases e : q = i
        · rw [if_pos e, e]; exact hB
        · rw [if_neg e]; exact (hi3 q hq).eq E1 (fun j a b => by unfold jIn at a b; omega)) (fun z => z)
    · refine e_ldc dX6_image_22 kX6_144 ?_
      exact e_iret hX dX6_image_24 (by rw [sp_image, if_pos c_6, if_neg c_19]; exact cAns.same c rfl) (fun z => z)
  · refine e_ldc dX6_image_9 kX6_67 ?_
    exact e_iret hX dX6_image_11 (by rw [sp_image, if_neg c_6]; exact cAns.same c rfl) (fun z => z)
set_option maxRecDepth 100000 in
set_option maxHeartbeats 4000000 in
theorem c_restore {h : jH} {S : jS} (c : CI h S) (g : SG S) {x : Int32} : jM yX6_restore cX6_restore 2 (some .int) 2 none [.ref 0, .int x] h (cAns h (sp_restore x S)) := by
  obtain ⟨c1, c2, c3, c4, c5, c6, c7, c8⟩ := id c
  obtain ⟨g0, g1, g2, ⟨ok, gd, gh⟩, ⟨ga, gp⟩, gi, gt⟩ := id g
  obtain ⟨k0, k1, k2, k3, k4, k5⟩ := id ok
  obtain ⟨f, k, b, p, gg, z, hC, hV⟩ := id c4
  obtain ⟨nx, rf, hnx, hac, -⟩ := id c5
  obtain ⟨⟨at_, ht⟩, hx6, B, hB, hb⟩ := id c3
  obtain ⟨⟨rfi, hi1, hi2⟩, hi3⟩ := id c6
  obtain ⟨hk1, fk_, hk2, hk3⟩ := id c8
  refine jM.ofF (by decide +kernel) rfl (Nat.le_of_ble_eq_true rfl) (fun X hX hI => ?_)
  show jV cX6_restore RX6 2 X none 0 [some (.ref 0), some (.int x)] [] h
  refine e_il1 dX6_restore_0 ?_
  refine e_iconst (nI 0) dX6_restore_1 (by decide) ?_
  refine e_iconst (nI 1) dX6_restore_2 (by decide) ?_
  refine e_cs dX6_restore_3 sX6_63 (m_X6_isWithinR (by decide) (by decide)) (by decide) rfl rfl (Nat.le_of_ble_eq_true rfl) jBud0 ?_
  rintro _ _ ⟨rfl, rfl⟩
  refine e_if_neB 12 dX6_restore_6 (by decide) (fun c_6 => ?_) (fun c_6 => ?_)
  · obtain ⟨i, li, hi, rfl⟩ := iR_of c_6 (by decide)
    have ei : (nI i).toNatClampNeg = i := nI_clamp (by omega)
    have gii := gi i (by omega)
    obtain ⟨f3, k3_, b3, p3, g3, z3, hC3, -⟩ := id (hi3 i (by omega))
    have kk2 := gii.1.2.2.1
    refine e_al0 dX6_restore_12 ?_
    refine e_get dX6_restore_13 fX6_37 c1 rfl ?_
    refine e_il1 dX6_restore_16 ?_
    refine e_aaldN dX6_restore_17 hi1 (by omega) (by decide) (hi2 i (by omega)) ?_
    refine e_cv dX6_restore_18 vX6_141 (m_X3_stands hC3 (by omega)) (by decide) rfl rfl (Nat.le_of_ble_eq_true rfl) jBud0 rfl hC3.1 ?_
    rintro _ _ ⟨rfl, rfl⟩
    refine e_if_neB 27 dX6_restore_21 (by decide) (fun c_21 => ?_) (fun c_21 => ?_)
    · refine e_al0 dX6_restore_27 ?_
      refine e_get dX6_restore_28 fX6_26 c1 rfl ?_
      refine e_al0 dX6_restore_31 ?_
      refine e_get dX6_restore_32 fX6_37 c1 rfl ?_
      refine e_il1 dX6_restore_35 ?_
      refine e_aaldN dX6_restore_36 hi1 (by omega) (by decide) (hi2 i (by omega)) ?_
      refine e_cv dX6_restore_37 vX6_128 (m_become c4.x (hi3 i (by omega)) gii.1.2.2.1 gii.1.2.2.2.1 (by omega)) (by decide) rfl rfl (Nat.le_of_ble_eq_true rfl) jBud0 rfl hC.1 ?_
      rintro _ h1 ⟨rfl, hB, E1⟩
      replace c1 := E1.at (by unfold jIn; omega) c1
      replace c5 := cActs.eq E1 c5 (fun j _ _ q => by unfold jIn at q; omega)
      obtain ⟨nx3, rf3, hnx3, hac, -⟩ := id c5
      refine e_al0 dX6_restore_40 ?_
      refine e_get dX6_restore_41 fX6_33 c1 rfl ?_
      refine e_cv dX6_restore_44 vX6_132 (m_X0_forgetAll (ap2 := S.2.2.2.1.2) c5) (by decide) rfl rfl (Nat.le_of_ble_eq_true rfl) jBud0 rfl hac ?_
      rintro _ h2 ⟨rfl, hK, E2⟩
      refine e_iconst (nI 1) dX6_restore_47 (by decide) ?_
      exact e_iret hX dX6_restore_48 (by
        rw [sp_restore, if_pos c_6, ei, if_pos c_21]
        exact ⟨rfl, c.now (cNow.eq E2 hB (fun j _ _ q => by omega)) hK (E1.tr E2 (fun j q => by unfold jIn at q; omega) (fun j q => by omega)), E1.tr E2 (fun j q => by unfold jIn at q; unfold jLo; omega) (fun j q => by unfold jLo; omega)⟩) (fun z => z)
    · refine e_ldc dX6_restore_24 kX6_144 ?_
      exact e_iret hX dX6_restore_26 (by
        rw [sp_restore, if_pos c_6, ei, if_neg c_21]
        exact cAns.same c rfl) (fun z => z)
  · refine e_ldc dX6_restore_9 kX6_67 ?_
    exact e_iret hX dX6_restore_11 (by rw [sp_restore, if_neg c_6]; exact cAns.same c rfl) (fun z => z)
set_option maxRecDepth 100000 in
set_option maxHeartbeats 4000000 in
theorem c_count {h : jH} {S : jS} (c : CI h S) (g : SG S) {v : Int32} : jM yX6_count cX6_count 2 (some .int) 2 none [.ref 0, .int v] h (cAns h (sp_count v S, S)) := by
  obtain ⟨c1, c2, c3, c4, c5, c6, c7, c8⟩ := id c
  obtain ⟨g0, g1, g2, ⟨ok, gd, gh⟩, ⟨ga, gp⟩, gi, gt⟩ := id g
  obtain ⟨k0, k1, k2, k3, k4, k5⟩ := id ok
  obtain ⟨f, k, b, p, gg, z, hC, hV⟩ := id c4
  obtain ⟨nx, rf, hnx, hac, -⟩ := id c5
  obtain ⟨⟨at_, ht⟩, hx6, B, hB, hb⟩ := id c3
  obtain ⟨⟨rfi, hi1, hi2⟩, hi3⟩ := id c6
  obtain ⟨hk1, fk_, hk2, hk3⟩ := id c8
  obtain ⟨d1, L, I, N, d2, d3, d4, dL, -⟩ := id c2
  refine jM.ofF (by decide +kernel) rfl (Nat.le_of_ble_eq_true rfl) (fun X hX hI => ?_)
  show jV cX6_count RX6 2 X none 0 [some (.ref 0), some (.int v)] [] h
  refine e_il1 dX6_count_0 ?_
  by_cases q_1_0 : v = 0
  · rw [q_1_0]
    refine e_tin 56 dX6_count_1 (by decide) (by decide) rfl (by decide) ?_
    refine e_al0 dX6_count_56 ?_
    refine e_get dX6_count_57 fX6_10 c1 rfl ?_
    refine e_cv dX6_count_60 vX6_273 (m_X4_present d1 d2 d3 d4 (fun r hr => (g1 r hr).1) dL) (by decide) rfl rfl (Nat.le_of_ble_eq_true rfl) jBud0 rfl d1 ?_
    rintro _ _ ⟨rfl, rfl⟩
    exact e_iret hX dX6_count_63 (by rw [sp_count, if_pos q_1_0]; exact cAns.same c rfl) (fun z => z)
  · skip
    by_cases q_1_1 : v = 1
    · rw [q_1_1]
      refine e_tin 64 dX6_count_1 (by decide) (by decide) rfl (by decide) ?_
      refine e_al0 dX6_count_64 ?_
      refine e_get dX6_count_65 fX6_26 c1 rfl ?_
      refine e_get dX6_count_68 fX6_135 hC.1 rfl ?_
      exact e_iret hX dX6_count_71 (by rw [sp_count, if_neg q_1_0, if_pos q_1_1]; exact cAns.same c rfl) (fun z => z)
    · skip
      by_cases q_1_2 : v = 2
      · rw [q_1_2]
        refine e_tin 72 dX6_count_1 (by decide) (by decide) rfl (by decide) ?_
        refine e_al0 dX6_count_72 ?_
        refine e_get dX6_count_73 fX6_26 c1 rfl ?_
        refine e_get dX6_count_76 fX6_276 hC.1 rfl ?_
        exact e_iret hX dX6_count_79 (by rw [sp_count, if_neg q_1_0, if_neg q_1_1, if_pos q_1_2]; exact cAns.same c rfl) (fun z => z)
      · skip
        by_cases q_1_3 : v = 3
        · rw [q_1_3]
          refine e_tin 80 dX6_count_1 (by decide) (by decide) rfl (by decide) ?_
          refine e_al0 dX6_count_80 ?_
          refine e_get dX6_count_81 fX6_26 c1 rfl ?_
          refine e_get dX6_count_84 fX6_145 hC.1 rfl ?_
          exact e_iret hX dX6_count_87 (by rw [sp_count, if_neg q_1_0, if_neg q_1_1, if_neg q_1_2, if_pos q_1_3]; exact cAns.same c rfl) (fun z => z)
        · skip
          by_cases q_1_4 : v = 4
          · rw [q_1_4]
            refine e_tin 88 dX6_count_1 (by decide) (by decide) rfl (by decide) ?_
            refine e_al0 dX6_count_88 ?_
            refine e_get dX6_count_89 fX6_26 c1 rfl ?_
            refine e_get dX6_count_92 fX6_176 hC.1 rfl ?_
            exact e_iret hX dX6_count_95 (by rw [sp_count, if_neg q_1_0, if_neg q_1_1, if_neg q_1_2, if_neg q_1_3, if_pos q_1_4]; exact cAns.same c rfl) (fun z => z)
          · skip
            by_cases q_1_5 : v = 5
            · rw [q_1_5]
              refine e_tin 96 dX6_count_1 (by decide) (by decide) rfl (by decide) ?_
              refine e_al0 dX6_count_96 ?_
              refine e_get dX6_count_97 fX6_26 c1 rfl ?_
              refine e_get dX6_count_100 fX6_279 hC.1 rfl ?_
              exact e_iret hX dX6_count_103 (by rw [sp_count, if_neg q_1_0, if_neg q_1_1, if_neg q_1_2, if_neg q_1_3, if_neg q_1_4, if_pos q_1_5]; exact cAns.same c rfl) (fun z => z)
            · skip
              by_cases q_1_6 : v = 6
              · rw [q_1_6]
                refine e_tin 104 dX6_count_1 (by decide) (by decide) rfl (by decide) ?_
                refine e_al0 dX6_count_104 ?_
                refine e_get dX6_count_105 fX6_26 c1 rfl ?_
                refine e_cv dX6_count_108 vX6_154 (m_X3_litBits hC hV ok) (by decide) rfl rfl (Nat.le_of_ble_eq_true rfl) jBud0 rfl hC.1 ?_
                rintro _ _ ⟨rfl, rfl⟩
                exact e_iret hX dX6_count_111 (by rw [sp_count, if_neg q_1_0, if_neg q_1_1, if_neg q_1_2, if_neg q_1_3, if_neg q_1_4, if_neg q_1_5, if_pos q_1_6]; exact cAns.same c rfl) (fun z => z)
              · skip
                by_cases q_1_7 : v = 7
                · rw [q_1_7]
                  refine e_tin 112 dX6_count_1 (by decide) (by decide) rfl (by decide) ?_
                  refine e_al0 dX6_count_112 ?_
                  refine e_get dX6_count_113 fX6_26 c1 rfl ?_
                  refine e_cv dX6_count_116 vX6_164 (m_X3_pegBits hC hV ok) (by decide) rfl rfl (Nat.le_of_ble_eq_true rfl) jBud0 rfl hC.1 ?_
                  rintro _ _ ⟨rfl, rfl⟩
                  exact e_iret hX dX6_count_119 (by rw [sp_count, if_neg q_1_0, if_neg q_1_1, if_neg q_1_2, if_neg q_1_3, if_neg q_1_4, if_neg q_1_5, if_neg q_1_6, if_pos q_1_7]; exact cAns.same c rfl) (fun z => z)
                · skip
                  by_cases q_1_8 : v = 8
                  · rw [q_1_8]
                    refine e_tin 120 dX6_count_1 (by decide) (by decide) rfl (by decide) ?_
                    refine e_al0 dX6_count_120 ?_
                    refine e_get dX6_count_121 fX6_33 c1 rfl ?_
                    refine e_get dX6_count_124 fX6_179 hac rfl ?_
                    exact e_iret hX dX6_count_127 (by rw [sp_count, if_neg q_1_0, if_neg q_1_1, if_neg q_1_2, if_neg q_1_3, if_neg q_1_4, if_neg q_1_5, if_neg q_1_6, if_neg q_1_7, if_pos q_1_8]; exact cAns.same c rfl) (fun z => z)
                  · skip
                    by_cases q_1_9 : v = 9
                    · rw [q_1_9]
                      refine e_tin 128 dX6_count_1 (by decide) (by decide) rfl (by decide) ?_
                      refine e_al0 dX6_count_128 ?_
                      refine e_get dX6_count_129 fX6_19 c1 rfl ?_
                      refine e_get dX6_count_132 fX6_118 ht rfl ?_
                      exact e_iret hX dX6_count_135 (by rw [sp_count, if_neg q_1_0, if_neg q_1_1, if_neg q_1_2, if_neg q_1_3, if_neg q_1_4, if_neg q_1_5, if_neg q_1_6, if_neg q_1_7, if_neg q_1_8, if_pos q_1_9]; exact cAns.same c rfl) (fun z => z)
                    · skip
                      refine e_tout 136 dX6_count_1 (sw_out10 q_1_0 q_1_1 q_1_2 q_1_3 q_1_4 q_1_5 q_1_6 q_1_7 q_1_8 q_1_9) (by decide) ?_
                      refine e_ldc dX6_count_136 kX6_67 ?_
                      exact e_iret hX dX6_count_138 (by rw [sp_count, if_neg q_1_0, if_neg q_1_1, if_neg q_1_2, if_neg q_1_3, if_neg q_1_4, if_neg q_1_5, if_neg q_1_6, if_neg q_1_7, if_neg q_1_8, if_neg q_1_9]; exact cAns.same c rfl) (fun z => z)
theorem SG_act {S : jS} {w : hw} (g : SG S) (ok : g_ok w) (hd : w 4 ≤ 9999) (hh : 0 < w 2 ↔ 0 < w 1) : SG (z_act S w) := by
  obtain ⟨g0, g1, g2, g3, ⟨ga, gp⟩, gi, gt⟩ := g
  refine ⟨g0, g1, g2, ⟨ok, hd, hh⟩, ⟨Nat.min_le_right _ _, fun j hj => ?_⟩, gi, gt⟩
  have hj : j < min (S.2.2.2.1.1 + 1) 24 := hj
  show g_ok (s_noteP _ _ _ j) ∧ s_noteP _ _ _ j 4 ≤ 9999 ∧ (0 < s_noteP _ _ _ j 2 ↔ 0 < s_noteP _ _ _ j 1)
  by_cases e : j = min (S.2.2.2.1.1 + 1) 24 - 1
  · rw [e, s_noteP_new ga]; exact g3
  · rw [s_noteP_old ga (by omega)]
    refine gp _ ?_
    split <;> omega
set_option maxRecDepth 100000 in
set_option maxHeartbeats 4000000 in
theorem lp_X6_days {h0 : jH} {T : jS} {m : Nat} (hm24 : m ≤ 24) {X : jX} (hX : jRet X (some .int) none (cAns h0 (nI (s_lit T.2.2.1 (T.2.2.1 2)), T))) : ∀ (n i : Nat) (h : jH) (S : jS), m - i < n → i ≤ m → CI h S → SG S → S.2.2.1 4 + (m - i) ≤ 9999 → s_daysN (m - i) S = T → jEq h0 h jLo → jV cX6_days RX6 4 X none 46 [some (.ref 0), some (.int (nI m)), some (.int (nI i))] [] h := by
  intro n
  induction n with
  | zero => intros; omega
  | succ n ih =>
    intro i h S hm hi c g hday hr E
    obtain ⟨c1, c2, c3, c4, c5, c6, c7, c8⟩ := id c
    obtain ⟨g0, g1, g2, ⟨ok, gd, gh⟩, ⟨ga, gp⟩, gi, gt⟩ := id g
    obtain ⟨k0, k1, k2, k3, k4, k5⟩ := id ok
    obtain ⟨f, k, b, p, gg, z, hC, hV⟩ := id c4
    obtain ⟨nx, rf, hnx, hac, -⟩ := id c5
    obtain ⟨⟨at_, ht⟩, hx6, B, hB, hb⟩ := id c3
    obtain ⟨⟨rfi, hi1, hi2⟩, hi3⟩ := id c6
    obtain ⟨hk1, fk_, hk2, hk3⟩ := id c8
    refine e_il2 dX6_days_46 ?_
    refine e_il1 dX6_days_47 ?_
    refine e_ic_geN 75 dX6_days_48 (by decide) (by omega) (by omega) (fun c_48 => ?_) (fun c_48 => ?_)
    · refine e_al0 dX6_days_75 ?_
      refine e_get dX6_days_76 fX6_26 c1 rfl ?_
      refine e_cv dX6_days_79 vX6_154 (m_X3_litBits hC hV ok) (by decide) rfl rfl (Nat.le_of_ble_eq_true rfl) jBud0 rfl hC.1 ?_
      rintro _ _ ⟨rfl, rfl⟩
      exact e_iret hX dX6_days_82 (by
        have e0 : m - i = 0 := by omega
        rw [e0] at hr
        rw [← hr]
        exact ⟨rfl, c, E⟩) (fun z => z)
    · refine e_al0 dX6_days_51 ?_
      refine e_get dX6_days_52 fX6_33 c1 rfl ?_
      refine e_al0 dX6_days_55 ?_
      refine e_get dX6_days_56 fX6_26 c1 rfl ?_
      refine e_cv dX6_days_59 vX6_148 (m_X0_keep c5 c4 k2 k3 ga) (by decide) rfl rfl (Nat.le_of_ble_eq_true rfl) jBud0 rfl hac ?_
      rintro _ h1 ⟨rfl, hK, hN, E1⟩
      obtain ⟨f, k, b, p, gg, z, hC, hV⟩ := id hN
      replace c1 := E1.at (by omega) c1
      refine e_al0 dX6_days_62 ?_
      refine e_get dX6_days_63 fX6_26 c1 rfl ?_
      refine e_cv dX6_days_66 vX6_151 (m_X3_passDay hN ok (by omega)) (by decide) rfl rfl (Nat.le_of_ble_eq_true rfl) jBud0 rfl hC.1 ?_
      rintro _ h2 ⟨rfl, hP, E2⟩
      refine e_inc2N dX6_days_69 rfl ?_
      refine e_goto 46 dX6_days_72 (by decide) ?_
      have c' : CI h2 (z_act S (s_pass S.2.2.1)) := c.now hP (cActs.eq E2 hK (fun j _ _ q => by unfold jIn at q; omega)) (E1.tr E2 (fun j q => by omega) (fun j q => by unfold jIn at q; omega))
      have g' : SG (z_act S (s_pass S.2.2.1)) := SG_act g (s_pass_ok ok) (by rw [s_pass_4]; omega) gh
      exact ih (i + 1) _ (z_act S (s_pass S.2.2.1)) (by omega) (by omega) c' g' (by show s_pass S.2.2.1 4 + _ ≤ _; rw [s_pass_4]; omega) (by rw [← hr, show m - i = (m - (i + 1)) + 1 by omega]; rfl) (E.tr (E1.tr E2 (R := jLo) (fun j q => by unfold jLo; omega) (fun j q => by unfold jIn at q; unfold jLo; omega)) (fun j q => q) (fun j q => q))
set_option maxRecDepth 100000 in
set_option maxHeartbeats 4000000 in
theorem c_days {h : jH} {S : jS} (c : CI h S) (g : SG S) {n : Int32} : jM yX6_days cX6_days 3 (some .int) 4 none [.ref 0, .int n] h (cAns h (sp_days n S)) := by
  obtain ⟨c1, c2, c3, c4, c5, c6, c7, c8⟩ := id c
  obtain ⟨g0, g1, g2, ⟨ok, gd, gh⟩, ⟨ga, gp⟩, gi, gt⟩ := id g
  obtain ⟨k0, k1, k2, k3, k4, k5⟩ := id ok
  obtain ⟨f, k, b, p, gg, z, hC, hV⟩ := id c4
  obtain ⟨nx, rf, hnx, hac, -⟩ := id c5
  obtain ⟨⟨at_, ht⟩, hx6, B, hB, hb⟩ := id c3
  obtain ⟨⟨rfi, hi1, hi2⟩, hi3⟩ := id c6
  obtain ⟨hk1, fk_, hk2, hk3⟩ := id c8
  refine jM.ofF (by decide +kernel) rfl (Nat.le_of_ble_eq_true rfl) (fun X hX hI => ?_)
  show jV cX6_days RX6 4 X none 0 [some (.ref 0), some (.int n), none] [] h
  refine e_al0 dX6_days_0 ?_
  refine e_get dX6_days_1 fX6_26 c1 rfl ?_
  refine e_cv dX6_days_4 vX6_141 (m_X3_stands hC (by omega)) (by decide) rfl rfl (Nat.le_of_ble_eq_true rfl) jBud0 rfl hC.1 ?_
  rintro _ _ ⟨rfl, rfl⟩
  refine e_if_neB 13 dX6_days_7 (by decide) (fun c_7 => ?_) (fun c_7 => ?_)
  · refine e_il1 dX6_days_13 ?_
    refine e_iconst (nI 1) dX6_days_14 (by decide) ?_
    refine e_bipush (nI 24) dX6_days_15 (by decide) ?_
    refine e_cs dX6_days_17 sX6_63 (m_X6_isWithinR (by decide) (by decide)) (by decide) rfl rfl (Nat.le_of_ble_eq_true rfl) jBud0 ?_
    rintro _ _ ⟨rfl, rfl⟩
    refine e_if_neB 26 dX6_days_20 (by decide) (fun c_20 => ?_) (fun c_20 => ?_)
    · obtain ⟨m, lm, hm, rfl⟩ := iR_of c_20 (by decide)
      have em : (nI m).toNatClampNeg = m := nI_clamp (by omega)
      refine e_al0 dX6_days_26 ?_
      refine e_get dX6_days_27 fX6_26 c1 rfl ?_
      refine e_get dX6_days_30 fX6_145 hC.1 rfl ?_
      refine e_il1 dX6_days_33 ?_
      refine e_iaddN dX6_days_34 ?_
      refine e_sipush (nI 9999) dX6_days_35 (by decide) ?_
      refine e_ic_leN 44 dX6_days_38 (by decide) (by omega) (by omega) (fun c_38 => ?_) (fun c_38 => ?_)
      · refine e_iconst (nI 0) dX6_days_44 (by decide) ?_
        refine e_is2 dX6_days_45 rfl ?_
        have hsp : sp_days (nI m) S = (nI (s_lit (s_daysN m S).2.2.1 ((s_daysN m S).2.2.1 2)), s_daysN m S) := by
          rw [sp_days, if_pos c_7, if_pos c_20, em, if_pos (by omega)]
        rw [hsp] at hX
        exact lp_X6_days (by omega) hX (m + 1) 0 h S (by omega) (by omega) c g (by omega) rfl jEq.rf
      · refine e_ldc dX6_days_41 kX6_112 ?_
        exact e_iret hX dX6_days_43 (by
          rw [sp_days, if_pos c_7, if_pos c_20, em, if_neg (by omega)]
          exact cAns.same c rfl) (fun z => z)
    · refine e_ldc dX6_days_23 kX6_67 ?_
      exact e_iret hX dX6_days_25 (by rw [sp_days, if_pos c_7, if_neg c_20]; exact cAns.same c rfl) (fun z => z)
  · refine e_ldc dX6_days_10 kX6_144 ?_
    exact e_iret hX dX6_days_12 (by rw [sp_days, if_neg c_7]; exact cAns.same c rfl) (fun z => z)
