set_option maxRecDepth 100000 in
set_option maxHeartbeats 4000000 in
theorem lp_X2_lightsAll {h0 : jH} {w : hw} (okw : g_ok w) {q n : Nat} (hq : q < 256) (hn : n < 1000) {X : jX} (K : ∀ (h : jH) (l4 : Option Value), cTr h0 h (s_dk q w (w 3)) → jV cX2_lightsAll RX2 5 X none 50 [some (.ref 206), some (.ref 14), some (.int (nI q)), some (.int (nI n)), l4] [] h) : ∀ (m e : Nat) (h : jH), w 3 - e < m → e ≤ w 3 → cTr h0 h (s_dk q w e) → jV cX2_lightsAll RX2 5 X none 11 [some (.ref 206), some (.ref 14), some (.int (nI q)), some (.int (nI n)), some (.int (nI e))] [] h := by
  have h7 := okw.2.2.2.1
  intro m
  induction m with
  | zero => intros; omega
  | succ m ih =>
    intro e h hm he t
    have ok : g_ok (s_dk q w e) := s_dk_ok okw
    obtain ⟨f, k_, b_, p_, g_, z_, hC, hV⟩ := id t.2.1
    have z3 : s_dk q w e 3 = w 3 := s_dk_o (by omega)
    refine e_il4 dX2_lightsAll_11 ?_
    refine e_al0 dX2_lightsAll_13 ?_
    refine e_get dX2_lightsAll_14 fX2_12 t.1 rfl ?_
    refine e_get dX2_lightsAll_17 fX2_55 hC.1 rfl ?_
    refine e_ic_geN 50 dX2_lightsAll_20 (by decide) (by omega) (by omega) (fun c_20 => ?_) (fun c_20 => ?_)
    · exact K _ _ (t.cg (by rw [show e = w 3 by omega]))
    · refine e_il2 dX2_lightsAll_23 ?_
      refine e_il4 dX2_lightsAll_24 ?_
      refine e_ishrN dX2_lightsAll_26 (by omega) (by omega) ?_
      refine e_iconst (nI 1) dX2_lightsAll_27 (by decide) ?_
      refine e_iandN dX2_lightsAll_28 ?_
      rw [Nat.and_one_is_mod]
      refine e_iconst (nI 1) dX2_lightsAll_29 (by decide) ?_
      refine e_ic_neN 44 dX2_lightsAll_30 (by decide) (by omega) (by omega) (fun c_30 => ?_) (fun c_30 => ?_)
      · refine e_inc4N dX2_lightsAll_44 rfl ?_
        refine e_goto 11 dX2_lightsAll_47 (by decide) ?_
        exact ih (e + 1) _ (by omega) (by omega) (t.cg (s_dk_f c_30))
      · refine e_al0 dX2_lightsAll_33 ?_
        refine e_get dX2_lightsAll_34 fX2_12 t.1 rfl ?_
        refine e_get dX2_lightsAll_37 fX2_106 hC.1 rfl ?_
        refine e_il4 dX2_lightsAll_40 ?_
        refine e_iconst (nI 0) dX2_lightsAll_42 (by decide) ?_
        refine e_iastN dX2_lightsAll_43 hC.2.2.2.2.2.1 (by omega) (by decide) ?_
        refine e_abs (fun h1 hh => ?_)
        replace t := t.pg hC hV ok.2.2.1 hh
        clear hC hV hh
        refine e_inc4N dX2_lightsAll_44 rfl ?_
        refine e_goto 11 dX2_lightsAll_47 (by decide) ?_
        exact ih (e + 1) _ (by omega) (by omega) (t.cg (s_dk_t c_30))
set_option maxRecDepth 100000 in
set_option maxHeartbeats 4000000 in
theorem m_X2_lightsAll {h0 h : jH} {w : hw} (t0 : cT0 h0 h) (hN : HA h0 14 w) (ok : g_ok w) (hd2 : w 4 < 2 ^ 28) {q n : Nat} (hq : q < 256) (hn : n < 1000) : jM yX2_lightsAll cX2_lightsAll 5 (some .boolean) 5 none [.ref 206, .ref 14, .int (nI q), .int (nI n)] h (fun v h' => v = some (.int (jb (s_dl w n q = 2 ^ w 2 - 1))) ∧ cT0 h0 h') := by
  have h8 := ok.2.2.1
  have h7 := ok.2.2.2.1
  have hf2s := t0.2.1.sh
  refine jM.ofF (by decide +kernel) rfl (Nat.le_of_ble_eq_true rfl) (fun X hX hI => ?_)
  show jV cX2_lightsAll RX2 5 X none 0 [some (.ref 206), some (.ref 14), some (.int (nI q)), some (.int (nI n)), none] [] h
  refine e_al0 dX2_lightsAll_0 ?_
  refine e_get dX2_lightsAll_1 fX2_12 t0.1 rfl ?_
  refine e_al1 dX2_lightsAll_4 ?_
  refine e_cv dX2_lightsAll_5 vX2_25 (m_becomeT0 t0 hN h8 h7) (by decide) rfl rfl (Nat.le_of_ble_eq_true rfl) jBud0 rfl hf2s.choose_spec ?_
  rintro _ h1 ⟨rfl, t⟩
  refine e_iconst (nI 0) dX2_lightsAll_8 (by decide) ?_
  refine e_is4 dX2_lightsAll_9 rfl ?_
  refine lp_X2_lightsAll ok hq hn (fun h l4 t => ?_) (w 3 + 1) 0 _ (by omega) (by omega) (t.cg (s_dk_0 q w).symm)
  refine e_al0 dX2_lightsAll_50 ?_
  refine e_il3 dX2_lightsAll_51 ?_
  refine e_cv dX2_lightsAll_52 vX2_29 (m_X2_passDays hn t (s_dk_ok ok) (by rw [s_dk_o (by omega)]; omega)) (by decide) rfl rfl (Nat.le_of_ble_eq_true rfl) jBud0 rfl t.1 ?_
  rintro _ h2 ⟨rfl, t⟩
  obtain ⟨f, k_, b_, p_, g_, z_, hC, hV⟩ := id t.2.1
  refine e_al0 dX2_lightsAll_55 ?_
  refine e_get dX2_lightsAll_56 fX2_12 t.1 rfl ?_
  refine e_cv dX2_lightsAll_59 vX2_109 (m_X3_isAllLit hC hV (s_it_ok n (s_dk_ok ok))) (by decide) rfl rfl (Nat.le_of_ble_eq_true rfl) jBud0 rfl hC.1 ?_
  rintro _ _ ⟨rfl, rfl⟩
  exact e_zret hX dX2_lightsAll_62 jb_nar (⟨by rw [s_it_lo n _ (by omega), s_dk_o (by omega)]; rfl, t.t0⟩) (fun z => z)
set_option maxRecDepth 100000 in
set_option maxHeartbeats 4000000 in
theorem lp_X2_fewest2 {h0 : jH} {w : hw} (hN : HA h0 14 w) (ok : g_ok w) (hd2 : w 4 < 2 ^ 28) {n : Nat} (hn : n < 1000) {X : jX} (hX : jRet X (some .int) none (fun v' h' => v' = some (.int (ansD (s_rb (s_dl w n) (2 ^ w 2 - 1) (2 ^ w 3)))) ∧ cT0 h0 h')) {e : Nat} (he : e ≤ w 3) (h1_ : ∀ x, x < 2 ^ w 3 → s_bits x 8 < e → s_dl w n x ≠ 2 ^ w 2 - 1) (K : ∀ (h : jH) (l4 : Option Value), cT0 h0 h → (∀ x, x < 2 ^ w 3 → s_bits x 8 = e → s_dl w n x ≠ 2 ^ w 2 - 1) → jV cX2_fewestDrawn RX2 6 X none 53 [some (.ref 206), some (.ref 14), some (.int (nI n)), some (.int (nI e)), l4] [] h) : ∀ (m q : Nat) (h : jH), 2 ^ w 3 - q < m → q ≤ 2 ^ w 3 → cT0 h0 h → (∀ x, x < q → s_bits x 8 = e → s_dl w n x ≠ 2 ^ w 2 - 1) → jV cX2_fewestDrawn RX2 6 X none 13 [some (.ref 206), some (.ref 14), some (.int (nI n)), some (.int (nI e)), some (.int (nI q))] [] h := by
  have h7 := ok.2.2.2.1
  have hp := n_p8l (i := w 3) (by omega)
  intro m
  induction m with
  | zero => intros; omega
  | succ m ih =>
    intro q h hm hq t0 h2
    have hNh : HA h 14 w := hN.eq t0.2.2 (fun j a b => by unfold jIn at a b; omega)
    obtain ⟨f, k_, b_, p_, g_, z_, hC, hV⟩ := id hNh
    refine e_il4 dX2_fewestDrawn_13 ?_
    refine e_iconst (nI 1) dX2_fewestDrawn_15 (by decide) ?_
    refine e_al1 dX2_fewestDrawn_16 ?_
    refine e_get dX2_fewestDrawn_17 fX2_55 hC.1 rfl ?_
    refine e_ishlN dX2_fewestDrawn_20 (by omega) (by omega) ?_
    refine e_ic_geN 53 dX2_fewestDrawn_21 (by decide) (by omega) (by omega) (fun c_21 => ?_) (fun c_21 => ?_)
    · exact K _ _ t0 (fun x hx hs => h2 x (by omega) hs)
    · refine e_il4 dX2_fewestDrawn_24 ?_
      refine e_cs dX2_fewestDrawn_26 sX2_59 (m_bitCount (s := q) (by omega)) (by decide) rfl rfl (Nat.le_of_ble_eq_true rfl) jBud0 ?_
      rintro _ _ ⟨rfl, rfl⟩
      have bq := s_bits_le q 8
      refine e_il3 dX2_fewestDrawn_29 ?_
      refine e_ic_neN 47 dX2_fewestDrawn_30 (by decide) (by omega) (by omega) (fun c_30 => ?_) (fun c_30 => ?_)
      · refine e_inc4N dX2_fewestDrawn_47 rfl ?_
        refine e_goto 13 dX2_fewestDrawn_50 (by decide) ?_
        exact ih (q + 1) _ (by omega) (by omega) t0 (fun x hx hs => by
          by_cases e : x = q
          · exact absurd (by rw [← e]; exact hs) c_30
          · exact h2 x (by omega) hs)
      · refine e_al0 dX2_fewestDrawn_33 ?_
        refine e_al1 dX2_fewestDrawn_34 ?_
        refine e_il4 dX2_fewestDrawn_35 ?_
        refine e_il2 dX2_fewestDrawn_37 ?_
        refine e_cv dX2_fewestDrawn_38 vX2_65 (m_X2_lightsAll t0 hN ok hd2 (q := q) (by omega) hn) (by decide) rfl rfl (Nat.le_of_ble_eq_true rfl) jBud0 rfl t0.1 ?_
        rintro _ h1 ⟨rfl, t0⟩
        refine e_if_eqB 47 dX2_fewestDrawn_41 (by decide) (fun c_41 => ?_) (fun c_41 => ?_)
        · refine e_inc4N dX2_fewestDrawn_47 rfl ?_
          refine e_goto 13 dX2_fewestDrawn_50 (by decide) ?_
          exact ih (q + 1) _ (by omega) (by omega) t0 (fun x hx hs => by
            by_cases e : x = q
            · rw [e]; exact c_41
            · exact h2 x (by omega) hs)
        · refine e_il4 dX2_fewestDrawn_44 ?_
          exact e_iret hX dX2_fewestDrawn_46 (⟨by rw [s_rb_min (s_min_of (by omega) c_41 c_30 h1_ h2)]; rfl, t0⟩) (fun z => z)
set_option maxRecDepth 100000 in
set_option maxHeartbeats 4000000 in
theorem lp_X2_fewest1 {h0 : jH} {w : hw} (hN : HA h0 14 w) (ok : g_ok w) (hd2 : w 4 < 2 ^ 28) {n : Nat} (hn : n < 1000) {X : jX} (hX : jRet X (some .int) none (fun v' h' => v' = some (.int (ansD (s_rb (s_dl w n) (2 ^ w 2 - 1) (2 ^ w 3)))) ∧ cT0 h0 h')) : ∀ (m e : Nat) (h : jH) (l4 : Option Value), w 3 + 1 - e < m → e ≤ w 3 + 1 → cT0 h0 h → (∀ x, x < 2 ^ w 3 → s_bits x 8 < e → s_dl w n x ≠ 2 ^ w 2 - 1) → jV cX2_fewestDrawn RX2 6 X none 2 [some (.ref 206), some (.ref 14), some (.int (nI n)), some (.int (nI e)), l4] [] h := by
  have h7 := ok.2.2.2.1
  have hp := n_p8l (i := w 3) (by omega)
  intro m
  induction m with
  | zero => intros; omega
  | succ m ih =>
    intro e h l4 hm he t0 h1_
    have hNh : HA h 14 w := hN.eq t0.2.2 (fun j a b => by unfold jIn at a b; omega)
    obtain ⟨f, k_, b_, p_, g_, z_, hC, hV⟩ := id hNh
    refine e_il3 dX2_fewestDrawn_2 ?_
    refine e_al1 dX2_fewestDrawn_3 ?_
    refine e_get dX2_fewestDrawn_4 fX2_55 hC.1 rfl ?_
    refine e_ic_gtN 59 dX2_fewestDrawn_7 (by decide) (by omega) (by omega) (fun c_7 => ?_) (fun c_7 => ?_)
    · refine e_ldc dX2_fewestDrawn_59 kX2_37 ?_
      exact e_iret hX dX2_fewestDrawn_61 (⟨by rw [s_rb_none (fun x hx => h1_ x hx (by have := s_bits_lt2 (k := w 3) (by omega) hx; omega))]; rfl, t0⟩) (fun z => z)
    · refine e_iconst (nI 0) dX2_fewestDrawn_10 (by decide) ?_
      refine e_is4 dX2_fewestDrawn_11 rfl ?_
      refine lp_X2_fewest2 hN ok hd2 hn hX (e := e) (by omega) h1_ (fun h l4 t0 h2 => ?_) (2 ^ w 3 + 1) 0 h (Nat.lt_succ_of_le (Nat.sub_le _ _)) (Nat.zero_le _) t0 (fun x hx => absurd hx (by omega))
      refine e_inc3N dX2_fewestDrawn_53 rfl ?_
      refine e_goto 2 dX2_fewestDrawn_56 (by decide) ?_
      exact ih (e + 1) _ _ (by omega) (by omega) t0 (fun x hx hs => by
        by_cases z : s_bits x 8 = e
        · exact h2 x hx z
        · exact h1_ x hx (by omega))
set_option maxRecDepth 100000 in
set_option maxHeartbeats 4000000 in
theorem m_X2_fewestDrawn {h0 h : jH} {w : hw} (t0 : cT0 h0 h) (hN : HA h0 14 w) (ok : g_ok w) (hd2 : w 4 < 2 ^ 28) {n : Nat} (hn : n < 1000) : jM yX2_fewestDrawn cX2_fewestDrawn 5 (some .int) 6 none [.ref 206, .ref 14, .int (nI n)] h (fun v' h' => v' = some (.int (ansD (s_rb (s_dl w n) (2 ^ w 2 - 1) (2 ^ w 3)))) ∧ cT0 h0 h') := by
  refine jM.ofF (by decide +kernel) rfl (Nat.le_of_ble_eq_true rfl) (fun X hX hI => ?_)
  show jV cX2_fewestDrawn RX2 6 X none 0 [some (.ref 206), some (.ref 14), some (.int (nI n)), none, none] [] h
  refine e_iconst (nI 0) dX2_fewestDrawn_0 (by decide) ?_
  refine e_is3 dX2_fewestDrawn_1 rfl ?_
  exact lp_X2_fewest1 hN ok hd2 hn hX (w 3 + 2) 0 h none (by omega) (by omega) t0 (fun x hx hs => absurd hs (by omega))
theorem drA_1 {w : hw} {n v : Nat} (h : v = 1) : ansD (s_rb (s_dl w n) (2 ^ w 2 - 1) (2 ^ w 3)) = s_drA w n v := by
  cases hb : s_rb (s_dl w n) (2 ^ w 2 - 1) (2 ^ w 3) with
  | none => rw [s_drA_n hb]; rfl
  | some b => rw [s_drA_s hb, if_pos h]; rfl
theorem drA_2 {w : hw} {n v : Nat} (h : ansD (s_rb (s_dl w n) (2 ^ w 2 - 1) (2 ^ w 3)) = -1000000) (h3 : w 3 ≤ 7) : ansD (s_rb (s_dl w n) (2 ^ w 2 - 1) (2 ^ w 3)) = s_drA w n v := by
  cases hb : s_rb (s_dl w n) (2 ^ w 2 - 1) (2 ^ w 3) with
  | none => rw [s_drA_n hb]; rfl
  | some b =>
    rw [hb] at h
    have l1 := s_rb_lt hb
    have l2 := n_p8l (i := w 3) (by omega)
    exact absurd h (nI_notNone (by omega))
theorem drA_3 {w : hw} {n v : Nat} (h : ¬ ansD (s_rb (s_dl w n) (2 ^ w 2 - 1) (2 ^ w 3)) = -1000000) (hv : v ≠ 1) (h3 : w 3 ≤ 7) : bcI (ansD (s_rb (s_dl w n) (2 ^ w 2 - 1) (2 ^ w 3))) = s_drA w n v := by
  cases hb : s_rb (s_dl w n) (2 ^ w 2 - 1) (2 ^ w 3) with
  | none => rw [hb] at h; exact absurd rfl h
  | some b =>
    have l1 := s_rb_lt hb
    have l2 := n_p8l (i := w 3) (by omega)
    rw [s_drA_s hb, if_neg hv]
    exact bcI_bits b (by omega)
set_option maxRecDepth 100000 in
set_option maxHeartbeats 4000000 in
theorem c_draw {h : jH} {S : jS} (c : CI h S) (g : SG S) {n v : Int32} : jM yX6_draw cX6_draw 4 (some .int) 7 none [.ref 0, .int n, .int v] h (cAns h (sp_draw n v S, S)) := by
  obtain ⟨c1, c2, c3, c4, c5, c6, c7, c8⟩ := id c
  obtain ⟨g0, g1, g2, ⟨ok, gd, gh⟩, ⟨ga, gp⟩, gi, gt⟩ := id g
  obtain ⟨k0, k1, k2, k3, k4, k5⟩ := id ok
  obtain ⟨f, k, b, p, gg, z, hC, hV⟩ := id c4
  obtain ⟨nx, rf, hnx, hac, -⟩ := id c5
  obtain ⟨⟨at_, ht⟩, hx6, B, hB, hb⟩ := id c3
  obtain ⟨⟨rfi, hi1, hi2⟩, hi3⟩ := id c6
  obtain ⟨hk1, fk_, hk2, hk3⟩ := id c8
  obtain ⟨hf1, hf2, hf3, hf4⟩ := id c7
  have t0 : cT0 h h := ⟨hf1, hf2, jEq.rf⟩
  refine jM.ofF (by decide +kernel) rfl (Nat.le_of_ble_eq_true rfl) (fun X hX hI => ?_)
  show jV cX6_draw RX6 7 X none 0 [some (.ref 0), some (.int n), some (.int v), none] [] h
  refine e_al0 dX6_draw_0 ?_
  refine e_get dX6_draw_1 fX6_26 c1 rfl ?_
  refine e_cv dX6_draw_4 vX6_141 (m_X3_stands hC (by omega)) (by decide) rfl rfl (Nat.le_of_ble_eq_true rfl) jBud0 rfl hC.1 ?_
  rintro _ _ ⟨rfl, rfl⟩
  refine e_if_neB 13 dX6_draw_7 (by decide) (fun c_7 => ?_) (fun c_7 => ?_)
  · refine e_il1 dX6_draw_13 ?_
    refine e_iconst (nI 1) dX6_draw_14 (by decide) ?_
    refine e_bipush (nI 30) dX6_draw_15 (by decide) ?_
    refine e_cs dX6_draw_17 sX6_63 (m_X6_isWithinR (by decide) (by decide)) (by decide) rfl rfl (Nat.le_of_ble_eq_true rfl) jBud0 ?_
    rintro _ _ ⟨rfl, rfl⟩
    refine e_if_eqB 32 dX6_draw_20 (by decide) (fun c_20 => ?_) (fun c_20 => ?_)
    · refine e_ldc dX6_draw_32 kX6_67 ?_
      exact e_iret hX dX6_draw_34 (by rw [sp_draw, if_pos c_7, if_neg c_20]; exact cAns.same c rfl) (fun z => z)
    · refine e_il2 dX6_draw_23 ?_
      refine e_iconst (nI 0) dX6_draw_24 (by decide) ?_
      refine e_iconst (nI 1) dX6_draw_25 (by decide) ?_
      refine e_cs dX6_draw_26 sX6_63 (m_X6_isWithinR (by decide) (by decide)) (by decide) rfl rfl (Nat.le_of_ble_eq_true rfl) jBud0 ?_
      rintro _ _ ⟨rfl, rfl⟩
      refine e_if_neB 35 dX6_draw_29 (by decide) (fun c_29 => ?_) (fun c_29 => ?_)
      · obtain ⟨n, ln, hn, rfl⟩ := iR_of c_20 (by decide)
        have en : (nI n).toNatClampNeg = n := nI_clamp (by omega)
        obtain ⟨v, lv, hv, rfl⟩ := iR_of c_29 (by decide)
        have ev : (nI v).toNatClampNeg = v := nI_clamp (by omega)
        refine e_al0 dX6_draw_35 ?_
        refine e_get dX6_draw_36 fX6_44 c1 rfl ?_
        refine e_al0 dX6_draw_39 ?_
        refine e_get dX6_draw_40 fX6_26 c1 rfl ?_
        refine e_il1 dX6_draw_43 ?_
        refine e_cv dX6_draw_44 vX6_215 (m_X2_fewestDrawn t0 c4 ok (by omega) (by omega)) (by decide) rfl rfl (Nat.le_of_ble_eq_true rfl) jBud0 rfl hf1 ?_
        rintro _ h1 ⟨rfl, t⟩
        refine e_is3 dX6_draw_47 rfl ?_
        refine e_il2 dX6_draw_48 ?_
        refine e_iconst (nI 1) dX6_draw_49 (by decide) ?_
        refine e_ic_eqN 59 dX6_draw_50 (by decide) (by omega) (by omega) (fun c_50 => ?_) (fun c_50 => ?_)
        · refine e_il3 dX6_draw_59 ?_
          refine e_goto 67 dX6_draw_60 (by decide) ?_
          exact e_iret hX dX6_draw_67 (by
            rw [sp_draw, if_pos c_7, if_pos c_20, if_pos c_29, en, ev]
            exact ⟨by rw [← drA_1 c_50], c.t0 t, t.lo⟩) (fun z => z)
        · refine e_il3 dX6_draw_53 ?_
          refine e_ldc dX6_draw_54 kX6_218 ?_
          refine e_ic_ne 63 dX6_draw_56 (by decide) (fun c_56 => ?_) (fun c_56 => ?_)
          · refine e_il3 dX6_draw_63 ?_
            refine e_cs dX6_draw_64 sX6_219 (m_bitCountI) (by decide) rfl rfl (Nat.le_of_ble_eq_true rfl) jBud0 ?_
            rintro _ _ ⟨rfl, rfl⟩
            exact e_iret hX dX6_draw_67 (by
              rw [sp_draw, if_pos c_7, if_pos c_20, if_pos c_29, en, ev]
              exact ⟨by rw [← drA_3 c_56 c_50 k3], c.t0 t, t.lo⟩) (fun z => z)
          · refine e_il3 dX6_draw_59 ?_
            refine e_goto 67 dX6_draw_60 (by decide) ?_
            exact e_iret hX dX6_draw_67 (by
              rw [sp_draw, if_pos c_7, if_pos c_20, if_pos c_29, en, ev]
              exact ⟨by rw [← drA_2 c_56 k3], c.t0 t, t.lo⟩) (fun z => z)
      · refine e_ldc dX6_draw_32 kX6_67 ?_
        exact e_iret hX dX6_draw_34 (by rw [sp_draw, if_pos c_7, if_pos c_20, if_neg c_29]; exact cAns.same c rfl) (fun z => z)
  · refine e_ldc dX6_draw_10 kX6_144 ?_
    exact e_iret hX dX6_draw_12 (by rw [sp_draw, if_neg c_7]; exact cAns.same c rfl) (fun z => z)
set_option maxRecDepth 100000 in
set_option maxHeartbeats 4000000 in
theorem lp_X7_draw2 {h0 : jH} {s : Nat → Int32} {w : hw} (ok : g_ok w) {q n v : Nat} (hq : q < 256) {bv : Int32} {l5 : Int32} {X : jX} (K : ∀ (h : jH) (l6 : Option Value), rTr h0 h s w (s_dk q w (w 3)) → jV cX7_draw RX7 5 X none 153 [some (.ref 218), some (.int (nI n)), some (.int (nI v)), some (.int bv), some (.int (nI q)), some (.int l5), l6] [] h) : ∀ (m e : Nat) (h : jH), w 3 - e < m → e ≤ w 3 → rTr h0 h s w (s_dk q w e) → jV cX7_draw RX7 5 X none 94 [some (.ref 218), some (.int (nI n)), some (.int (nI v)), some (.int bv), some (.int (nI q)), some (.int l5), some (.int (nI e))] [] h := by
  have h7 := ok.2.2.2.1
  intro m
  induction m with
  | zero => intros; omega
  | succ m ih =>
    intro e h hm he t
    refine e_il6 dX7_draw_94 ?_
    refine e_al0 dX7_draw_96 ?_
    refine e_get dX7_draw_97 fX7_25 t.1 rfl ?_
    refine e_iconst (nI 3) dX7_draw_100 (by decide) ?_
    refine e_ialdN dX7_draw_101 t.2.1 (by omega) (by decide) ?_
    refine e_ic_geN 153 dX7_draw_102 (by decide) (by omega) (by omega) (fun c_102 => ?_) (fun c_102 => ?_)
    · exact K _ _ (t.cg (by rw [show e = w 3 by omega]))
    · have k5 := ok.2.2.2.2.2 e (by omega)
      refine e_al0 dX7_draw_105 ?_
      refine e_get dX7_draw_106 fX7_31 t.1 rfl ?_
      refine e_bipush (nI 13) dX7_draw_109 (by decide) ?_
      refine e_iconst (nI 4) dX7_draw_111 (by decide) ?_
      refine e_il6 dX7_draw_112 ?_
      refine e_imulN dX7_draw_114 ?_
      refine e_iaddN dX7_draw_115 ?_
      refine e_iconst (nI 3) dX7_draw_116 (by decide) ?_
      refine e_iaddN dX7_draw_117 ?_
      refine e_il4 dX7_draw_118 ?_
      refine e_il6 dX7_draw_120 ?_
      refine e_cs dX7_draw_122 sX7_154 (m_X7_has (x := q) (y := e) (by omega) (by omega)) (by decide) rfl rfl (Nat.le_of_ble_eq_true rfl) jBud0 ?_
      rintro _ _ ⟨rfl, rfl⟩
      refine e_if_eqB 132 dX7_draw_125 (by decide) (fun c_125 => ?_) (fun c_125 => ?_)
      · refine e_al0 dX7_draw_132 ?_
        refine e_get dX7_draw_133 fX7_25 t.1 rfl ?_
        refine e_bipush (nI 13) dX7_draw_136 (by decide) ?_
        refine e_iconst (nI 4) dX7_draw_138 (by decide) ?_
        refine e_il6 dX7_draw_139 ?_
        refine e_imulN dX7_draw_141 ?_
        refine e_iaddN dX7_draw_142 ?_
        refine e_iconst (nI 3) dX7_draw_143 (by decide) ?_
        refine e_iaddN dX7_draw_144 ?_
        refine e_ialdN dX7_draw_145 t.2.1 (by omega) (by decide) ?_
        refine e_iastN dX7_draw_146 t.2.2.1 (by omega) (by decide) ?_
        refine e_abs (fun h1 hh => ?_)
        replace t := t.hs hh
        clear hh
        refine e_inc6N dX7_draw_147 rfl ?_
        refine e_goto 94 dX7_draw_150 (by decide) ?_
        exact ih (e + 1) _ (by omega) (by omega) (t.cg (s_dk_ff c_125))
      · refine e_iconst (nI 0) dX7_draw_128 (by decide) ?_
        refine e_goto 146 dX7_draw_129 (by decide) ?_
        refine e_iastN dX7_draw_146 t.2.2.1 (by omega) (by decide) ?_
        refine e_abs (fun h1 hh => ?_)
        replace t := t.hs hh
        clear hh
        refine e_inc6N dX7_draw_147 rfl ?_
        refine e_goto 94 dX7_draw_150 (by decide) ?_
        exact ih (e + 1) _ (by omega) (by omega) (t.cg (s_dk_t c_125))
set_option maxRecDepth 100000 in
set_option maxHeartbeats 4000000 in
theorem lp_X7_draw3 {h0 : jH} {s : Nat → Int32} {w : hw} (ok : g_ok w) (hd2 : w 4 < 2 ^ 28) {q n v : Nat} (hq : q < 256) (hn : n < 1000) {bv : Int32} {l5 : Int32} {X : jX} (K : ∀ (h : jH) (u : hw) (l6 : Option Value), rTr h0 h s w u → jV cX7_draw RX7 5 X none 184 [some (.ref 218), some (.int (nI n)), some (.int (nI v)), some (.int (if s_dl w n q = 2 ^ w 2 - 1 then nI q else bv)), some (.int (nI q)), some (.int l5), l6] [] h) {h : jH} {u : hw} {l6 : Option Value} (t : rTr h0 h s w u) : jV cX7_draw RX7 5 X none 78 [some (.ref 218), some (.int (nI n)), some (.int (nI v)), some (.int bv), some (.int (nI q)), some (.int l5), l6] [] h := by
  have h8 := ok.2.2.1
  have h7 := ok.2.2.2.1
  refine e_al0 dX7_draw_78 ?_
  refine e_get dX7_draw_79 fX7_25 t.1 rfl ?_
  refine e_iconst (nI 0) dX7_draw_82 (by decide) ?_
  refine e_al0 dX7_draw_83 ?_
  refine e_get dX7_draw_84 fX7_31 t.1 rfl ?_
  refine e_iconst (nI 0) dX7_draw_87 (by decide) ?_
  refine e_cs dX7_draw_88 sX7_147 (m_X7_copyT t) (by decide) rfl rfl (Nat.le_of_ble_eq_true rfl) jBud0 ?_
  rintro _ h1 ⟨rfl, t⟩
  refine e_iconst (nI 0) dX7_draw_91 (by decide) ?_
  refine e_is6 dX7_draw_92 rfl ?_
  refine lp_X7_draw2 ok hq (fun h l6 t => ?_) (w 3 + 1) 0 _ (by omega) (by omega) (t.cg (s_dk_0 q w).symm)
  refine e_al0 dX7_draw_153 ?_
  refine e_il1 dX7_draw_154 ?_
  refine e_cv dX7_draw_155 vX7_210 (m_X7_goesOn (d := n) hn t (s_dk_ok ok) (by rw [s_dk_o (by omega)]; omega)) (by decide) rfl rfl (Nat.le_of_ble_eq_true rfl) jBud0 rfl t.1 ?_
  rintro _ h2 ⟨rfl, t⟩
  refine e_al0 dX7_draw_158 ?_
  refine e_get dX7_draw_159 fX7_31 t.1 rfl ?_
  refine e_cs dX7_draw_162 sX7_191 (m_X7_litOf t.2.2.1 (s_it_ok n (s_dk_ok ok))) (by decide) rfl rfl (Nat.le_of_ble_eq_true rfl) jBud0 ?_
  rintro _ _ ⟨rfl, rfl⟩
  rw [s_it_lo n _ (k := 2) (by omega), s_dk_o (x := 2) (by omega)]
  have ll := s_lit_lt (s_it n (s_dk q w (w 3))) (w 2)
  have l8 := n_p8l (i := w 2) (by omega)
  refine e_cs dX7_draw_165 sX7_217 (m_X7_bits (by omega)) (by decide) rfl rfl (Nat.le_of_ble_eq_true rfl) jBud0 ?_
  rintro _ _ ⟨rfl, rfl⟩
  have bl := s_bits_le (s_lit (s_it n (s_dk q w (w 3))) (w 2)) 8
  refine e_al0 dX7_draw_168 ?_
  refine e_get dX7_draw_169 fX7_25 t.1 rfl ?_
  refine e_iconst (nI 2) dX7_draw_172 (by decide) ?_
  refine e_ialdN dX7_draw_173 t.2.1 (by omega) (by decide) ?_
  refine e_ic_neN 182 dX7_draw_174 (by decide) (by omega) (by omega) (fun c_174 => ?_) (fun c_174 => ?_)
  · refine e_il3 dX7_draw_182 ?_
    refine e_is3 dX7_draw_183 rfl ?_
    have r := K _ _ l6 t
    rw [if_neg (show ¬ s_dl w n q = 2 ^ w 2 - 1 from fun z => c_174 ((s_bits_all h8 ll).mpr z))] at r
    exact r
  · refine e_il4 dX7_draw_177 ?_
    refine e_goto 183 dX7_draw_179 (by decide) ?_
    refine e_is3 dX7_draw_183 rfl ?_
    have r := K _ _ l6 t
    rw [if_pos (show s_dl w n q = 2 ^ w 2 - 1 from (s_bits_all h8 ll).mp c_174)] at r
    exact r
set_option maxRecDepth 100000 in
set_option maxHeartbeats 4000000 in
theorem lp_X7_draw1 {h0 : jH} {S : jS} (c : RI h0 S) {w : hw} {s : Nat → Int32} (ok : g_ok w) (hd2 : w 4 < 2 ^ 28) {n v : Nat} (hn : n < 1000) (hv : v ≤ 1) {X : jX} {post : Option Value → jH → Prop} (hX : jRet X (some .int) none post) (hp : ∀ h, RI h S → jEq h0 h jHi → post (some (.int (s_drA w n v))) h) : ∀ (m q : Nat) (h : jH) (u : hw) (l5 l6 : Option Value), 2 ^ w 3 - q < m → q ≤ 2 ^ w 3 → rTr h0 h s w u → jV cX7_draw RX7 5 X none 35 [some (.ref 218), some (.int (nI n)), some (.int (nI v)), some (.int (ansD (s_rb (s_dl w n) (2 ^ w 2 - 1) q))), some (.int (nI q)), l5, l6] [] h := by
  have h7 := ok.2.2.2.1
  have hp8 := n_p8l (i := w 3) (by omega)
  intro m
  induction m with
  | zero => intros; omega
  | succ m ih =>
    intro q h u l5 l6 hm hq t
    refine e_il4 dX7_draw_35 ?_
    refine e_iconst (nI 1) dX7_draw_37 (by decide) ?_
    refine e_al0 dX7_draw_38 ?_
    refine e_get dX7_draw_39 fX7_25 t.1 rfl ?_
    refine e_iconst (nI 3) dX7_draw_42 (by decide) ?_
    refine e_ialdN dX7_draw_43 t.2.1 (by omega) (by decide) ?_
    refine e_ishlN dX7_draw_44 (by omega) (by omega) ?_
    refine e_ic_geN 190 dX7_draw_45 (by decide) (by omega) (by omega) (fun c_45 => ?_) (fun c_45 => ?_)
    · replace hp := hp h (c.tr t) t.hi
      rw [show q = 2 ^ w 3 by omega]
      cases hb : s_rb (s_dl w n) (2 ^ w 2 - 1) (2 ^ w 3) with
      | none =>
        refine e_il3 dX7_draw_190 ?_
        refine e_ldc dX7_draw_191 kX7_59 ?_
        refine e_ic_eq 201 dX7_draw_193 (by decide) (fun c_193 => ?_) (fun c_193 => ?_)
        · refine e_il3 dX7_draw_201 ?_
          refine e_goto 209 dX7_draw_202 (by decide) ?_
          exact e_iret hX dX7_draw_209 (by rw [s_drA_n hb] at hp; exact hp) (fun z => z)
        · exact absurd rfl c_193
      | some b =>
        have bq := s_rb_lt hb
        rw [show ansD (some b) = nI b from rfl]
        refine e_il3 dX7_draw_190 ?_
        refine e_ldc dX7_draw_191 kX7_59 ?_
        refine e_ic_eq 201 dX7_draw_193 (by decide) (fun c_193 => ?_) (fun c_193 => ?_)
        · exact absurd c_193 (nI_notNone (by omega))
        · refine e_il2 dX7_draw_196 ?_
          refine e_iconst (nI 1) dX7_draw_197 (by decide) ?_
          refine e_ic_neN 205 dX7_draw_198 (by decide) (by omega) (by omega) (fun c_198 => ?_) (fun c_198 => ?_)
          · refine e_il3 dX7_draw_205 ?_
            refine e_cs dX7_draw_206 sX7_217 (m_X7_bits (by omega)) (by decide) rfl rfl (Nat.le_of_ble_eq_true rfl) jBud0 ?_
            rintro _ _ ⟨rfl, rfl⟩
            have bl1 := s_bits_le q 8
            have bl2 := s_bits_le b 8
            exact e_iret hX dX7_draw_209 (by rw [s_drA_s hb, if_neg c_198] at hp; exact hp) (fun z => z)
          · refine e_il3 dX7_draw_201 ?_
            refine e_goto 209 dX7_draw_202 (by decide) ?_
            exact e_iret hX dX7_draw_209 (by rw [s_drA_s hb, if_pos c_198] at hp; exact hp) (fun z => z)
    · cases hb : s_rb (s_dl w n) (2 ^ w 2 - 1) q with
      | none =>
        refine e_il3 dX7_draw_48 ?_
        refine e_ldc dX7_draw_49 kX7_59 ?_
        refine e_ic_eq 66 dX7_draw_51 (by decide) (fun c_51 => ?_) (fun c_51 => ?_)
        · refine e_iconst (nI 1) dX7_draw_66 (by decide) ?_
          refine e_goto 71 dX7_draw_67 (by decide) ?_
          refine e_is5 dX7_draw_71 rfl ?_
          refine e_il5 dX7_draw_73 ?_
          refine e_if_eqN 184 dX7_draw_75 (by decide) (by omega) (fun c_75 => ?_) (fun c_75 => ?_)
          · exact absurd c_75 (by omega)
          · refine lp_X7_draw3 ok hd2 (q := q) (by omega) hn (fun h u l6 t => ?_) t
            refine e_inc4N dX7_draw_184 rfl ?_
            refine e_goto 35 dX7_draw_187 (by decide) ?_
            have r := ih (q + 1) h u (some (.int (nI 1))) l6 (by omega) (by omega) t
            rw [show ansD (s_rb (s_dl w n) (2 ^ w 2 - 1) (q + 1)) = if s_dl w n q = 2 ^ w 2 - 1 then nI q else ansD none by rw [s_rb_n hb]; split <;> rfl] at r
            exact r
        · exact absurd rfl c_51
      | some b =>
        have bq := s_rb_lt hb
        rw [show ansD (some b) = nI b from rfl]
        refine e_il3 dX7_draw_48 ?_
        refine e_ldc dX7_draw_49 kX7_59 ?_
        refine e_ic_eq 66 dX7_draw_51 (by decide) (fun c_51 => ?_) (fun c_51 => ?_)
        · exact absurd c_51 (nI_notNone (by omega))
        · refine e_il4 dX7_draw_54 ?_
          refine e_cs dX7_draw_56 sX7_217 (m_X7_bits (by omega)) (by decide) rfl rfl (Nat.le_of_ble_eq_true rfl) jBud0 ?_
          rintro _ _ ⟨rfl, rfl⟩
          have bl1 := s_bits_le q 8
          have bl2 := s_bits_le b 8
          refine e_il3 dX7_draw_59 ?_
          refine e_cs dX7_draw_60 sX7_217 (m_X7_bits (by omega)) (by decide) rfl rfl (Nat.le_of_ble_eq_true rfl) jBud0 ?_
          rintro _ _ ⟨rfl, rfl⟩
          have bl1 := s_bits_le q 8
          have bl2 := s_bits_le b 8
          refine e_ic_geN 70 dX7_draw_63 (by decide) (by omega) (by omega) (fun c_63 => ?_) (fun c_63 => ?_)
          · refine e_iconst (nI 0) dX7_draw_70 (by decide) ?_
            refine e_is5 dX7_draw_71 rfl ?_
            refine e_il5 dX7_draw_73 ?_
            refine e_if_eqN 184 dX7_draw_75 (by decide) (by omega) (fun c_75 => ?_) (fun c_75 => ?_)
            · refine e_inc4N dX7_draw_184 rfl ?_
              refine e_goto 35 dX7_draw_187 (by decide) ?_
              have r := ih (q + 1) h u (some (.int (nI 0))) l6 (by omega) (by omega) t
              rw [show ansD (s_rb (s_dl w n) (2 ^ w 2 - 1) (q + 1)) = nI b by rw [s_rb_s hb, if_neg (by omega)]; rfl] at r
              exact r
            · exact absurd c_75 (by omega)
          · refine e_iconst (nI 1) dX7_draw_66 (by decide) ?_
            refine e_goto 71 dX7_draw_67 (by decide) ?_
            refine e_is5 dX7_draw_71 rfl ?_
            refine e_il5 dX7_draw_73 ?_
            refine e_if_eqN 184 dX7_draw_75 (by decide) (by omega) (fun c_75 => ?_) (fun c_75 => ?_)
            · exact absurd c_75 (by omega)
            · refine lp_X7_draw3 ok hd2 (q := q) (by omega) hn (fun h u l6 t => ?_) t
              refine e_inc4N dX7_draw_184 rfl ?_
              refine e_goto 35 dX7_draw_187 (by decide) ?_
              have r := ih (q + 1) h u (some (.int (nI 1))) l6 (by omega) (by omega) t
              rw [show ansD (s_rb (s_dl w n) (2 ^ w 2 - 1) (q + 1)) = if s_dl w n q = 2 ^ w 2 - 1 then nI q else nI b by rw [s_rb_s hb, if_pos c_63]; split <;> rfl] at r
              exact r
set_option maxRecDepth 100000 in
set_option maxHeartbeats 4000000 in
theorem r_draw {h : jH} {S : jS} (c : RI h S) (g : SG S) {n v : Int32} : jM yX7_draw cX7_draw 7 (some .int) 5 none [.ref 218, .int n, .int v] h (rAns h (sp_draw n v S, S)) := by
  obtain ⟨⟨s, hO, s0, s1, s2, s8, s9⟩, c2, c3, hW, c5, c6, c7, c8⟩ := id c
  obtain ⟨g0, g1, g2, ⟨ok, gd, gh⟩, ⟨ga, gp⟩, gi, gt⟩ := id g
  obtain ⟨k0, k1, k2, k3, k4, k5⟩ := id ok
  obtain ⟨B, hB, hb⟩ := id c3
  obtain ⟨Pa, hP, hPa⟩ := id c5
  obtain ⟨Im, Kk, hI1, hI2, hI3, hI4⟩ := id c6
  obtain ⟨⟨x1, hx1⟩, ⟨x2, hx2⟩, ⟨x3, hx3⟩, ⟨x4, hx4⟩, ⟨x5, hx5⟩, x6, hx6⟩ := id c7
  obtain ⟨tf, ht1, ht2⟩ := id c8
  have t0 : rTr h h s S.2.2.1 x2 := ⟨hO, hW, hx2, ⟨x3, hx3⟩, ⟨x4, hx4⟩, jEq.rf⟩
  refine jM.ofF (by decide +kernel) rfl (Nat.le_of_ble_eq_true rfl) (fun X hX hI => ?_)
  show jV cX7_draw RX7 5 X none 0 [some (.ref 218), some (.int n), some (.int v), none, none, none, none] [] h
  refine e_al0 dX7_draw_0 ?_
  refine e_cv dX7_draw_1 vX7_180 (m_X7_isHouse hO hW (by omega)) (by decide) rfl rfl (Nat.le_of_ble_eq_true rfl) jBud0 rfl hO ?_
  rintro _ _ ⟨rfl, rfl⟩
  refine e_if_neB 10 dX7_draw_4 (by decide) (fun c_4 => ?_) (fun c_4 => ?_)
  · refine e_il1 dX7_draw_10 ?_
    refine e_cs dX7_draw_11 sX7_214 (m_X7_isNear) (by decide) rfl rfl (Nat.le_of_ble_eq_true rfl) jBud0 ?_
    rintro _ _ ⟨rfl, rfl⟩
    refine e_if_eqB 26 dX7_draw_14 (by decide) (fun c_14 => ?_) (fun c_14 => ?_)
    · refine e_ldc dX7_draw_26 kX7_73 ?_
      exact e_iret hX dX7_draw_28 (by rw [sp_draw, if_pos (gh.mpr c_4), if_neg c_14]; exact rAns.same c rfl) (fun z => z)
    · refine e_il2 dX7_draw_17 ?_
      refine e_iconst (nI 0) dX7_draw_18 (by decide) ?_
      refine e_iconst (nI 1) dX7_draw_19 (by decide) ?_
      refine e_cs dX7_draw_20 sX7_65 (m_X7_inR (by decide) (by decide)) (by decide) rfl rfl (Nat.le_of_ble_eq_true rfl) jBud0 ?_
      rintro _ _ ⟨rfl, rfl⟩
      refine e_if_neB 29 dX7_draw_23 (by decide) (fun c_23 => ?_) (fun c_23 => ?_)
      · obtain ⟨n, ln, hn, rfl⟩ := iR_of c_14 (by decide)
        have en : (nI n).toNatClampNeg = n := nI_clamp (by omega)
        obtain ⟨v, lv, hv, rfl⟩ := iR_of c_23 (by decide)
        have ev : (nI v).toNatClampNeg = v := nI_clamp (by omega)
        refine e_ldc dX7_draw_29 kX7_59 ?_
        refine e_is3 dX7_draw_31 rfl ?_
        refine e_iconst (nI 0) dX7_draw_32 (by decide) ?_
        refine e_is4 dX7_draw_33 rfl ?_
        exact lp_X7_draw1 c ok (by omega) (by omega) hv hX (fun h c1 E => ⟨by rw [sp_draw, if_pos (gh.mpr c_4), if_pos c_14, if_pos c_23, en, ev], c1, E⟩) (2 ^ S.2.2.1 3 + 1) 0 _ _ none none (Nat.lt_succ_of_le (Nat.sub_le _ _)) (Nat.zero_le _) t0
      · refine e_ldc dX7_draw_26 kX7_73 ?_
        exact e_iret hX dX7_draw_28 (by rw [sp_draw, if_pos (gh.mpr c_4), if_pos c_14, if_neg c_23]; exact rAns.same c rfl) (fun z => z)
  · refine e_ldc dX7_draw_7 kX7_183 ?_
    exact e_iret hX dX7_draw_9 (by rw [sp_draw, if_neg (fun q => c_4 (gh.mp q))]; exact rAns.same c rfl) (fun z => z)
