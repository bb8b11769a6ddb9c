set_option maxRecDepth 100000 in
set_option maxHeartbeats 4000000 in
theorem lp_X2_passDays {h0 : jH} {d : Nat} (hd : d < 1000) {T : hw} {X : jX} (hX : jRet X (none) none (fun v h' => v = none ∧ cTr h0 h' T)) : ∀ (n i : Nat) (h : jH) (u : hw), d - i < n → i ≤ d → cTr h0 h u → g_ok u → u 4 + (d - i) < 2 ^ 29 → s_it (d - i) u = T → jV cX2_passDays RX2 4 X none 2 [some (.ref 206), some (.int (nI d)), some (.int (nI i))] [] h := by
  intro n
  induction n with
  | zero => intros; omega
  | succ n ih =>
    intro i h u hm hi t ok hd2 hr
    refine e_il2 dX2_passDays_2 ?_
    refine e_il1 dX2_passDays_3 ?_
    refine e_ic_geN 20 dX2_passDays_4 (by decide) (by omega) (by omega) (fun c_4 => ?_) (fun c_4 => ?_)
    · exact e_ret hX dX2_passDays_20 (⟨rfl, by rw [← hr, show d - i = 0 by omega]; exact t⟩) (fun z => z)
    · refine e_al0 dX2_passDays_7 ?_
      refine e_get dX2_passDays_8 fX2_12 t.1 rfl ?_
      refine e_cv dX2_passDays_11 vX2_38 (m_passT t ok (by omega)) (by decide) rfl rfl (Nat.le_of_ble_eq_true rfl) jBud0 rfl t.2.1.sh.choose_spec ?_
      rintro _ h1 ⟨rfl, t1⟩
      refine e_inc2N dX2_passDays_14 rfl ?_
      refine e_goto 2 dX2_passDays_17 (by decide) ?_
      exact ih (i + 1) _ _ (by omega) (by omega) t1 (s_pass_ok ok) (by rw [s_pass_4]; omega) (by rw [← hr, show d - i = (d - (i + 1)) + 1 by omega]; rfl)
set_option maxRecDepth 100000 in
set_option maxHeartbeats 4000000 in
theorem m_X2_passDays {h0 h : jH} {d : Nat} (hd : d < 1000) {u : hw} (t : cTr h0 h u) (ok : g_ok u) (hd2 : u 4 < 2 ^ 28) : jM yX2_passDays cX2_passDays 3 (none : Option Jvm.ClassFile.FieldType) 4 none [.ref 206, .int (nI d)] h (fun v h' => v = none ∧ cTr h0 h' (s_it d u)) := by
  refine jM.ofF (by decide +kernel) rfl (Nat.le_of_ble_eq_true rfl) (fun X hX hI => ?_)
  show jV cX2_passDays RX2 4 X none 0 [some (.ref 206), some (.int (nI d)), none] [] h
  refine e_iconst (nI 0) dX2_passDays_0 (by decide) ?_
  refine e_is2 dX2_passDays_1 rfl ?_
  exact lp_X2_passDays hd hX (d + 1) 0 h u (by omega) (by omega) t ok (by omega) rfl
theorem HX.sh {h : jH} {o : Nat} (hX : HX h o) : ∃ fs, h[o]? = some (jO 3 fs) := by
  obtain ⟨a0, a1, a2, a3, a4, f, k, b, p, g, z, h0, -⟩ := hX
  exact ⟨_, h0⟩
set_option maxRecDepth 100000 in
set_option maxHeartbeats 4000000 in
theorem m_X2_behind {h : jH} {d : Nat} (hd : d < 1000) {w : hw} (hf1 : h[206]? = some (jO 2 [.ref 207, .ref 214, .ref 215])) (hf2 : HX h 207) (hN : HA h 14 w) (ok : g_ok w) (hd2 : w 4 < 2 ^ 28) : jM yX2_behind cX2_behind 3 (some (.object "BellowsWords$House")) 5 none [.ref 206, .ref 14, .int (nI d)] h (fun v h' => v = some (.ref 207) ∧ cTr h h' (s_it d w)) := by
  have h8 := ok.2.2.1
  have h7 := ok.2.2.2.1
  have hf2s := hf2.sh
  refine jM.ofF (by decide +kernel) rfl (Nat.le_of_ble_eq_true rfl) (fun X hX hI => ?_)
  show jV cX2_behind RX2 5 X none 0 [some (.ref 206), some (.ref 14), some (.int (nI d))] [] h
  refine e_al0 dX2_behind_0 ?_
  refine e_get dX2_behind_1 fX2_12 hf1 rfl ?_
  refine e_al1 dX2_behind_4 ?_
  refine e_cv dX2_behind_5 vX2_25 (m_becomeT hf1 hf2 jEq.rf hN h8 h7) (by decide) rfl rfl (Nat.le_of_ble_eq_true rfl) jBud0 rfl hf2s.choose_spec ?_
  rintro _ h1 ⟨rfl, t⟩
  refine e_al0 dX2_behind_8 ?_
  refine e_il2 dX2_behind_9 ?_
  refine e_cv dX2_behind_10 vX2_29 (m_X2_passDays hd t ok hd2) (by decide) rfl rfl (Nat.le_of_ble_eq_true rfl) jBud0 rfl t.1 ?_
  rintro _ h2 ⟨rfl, t⟩
  refine e_al0 dX2_behind_13 ?_
  refine e_get dX2_behind_14 fX2_12 t.1 rfl ?_
  exact e_aret hX dX2_behind_17 (⟨rfl, t⟩) (fun z => z)
set_option maxRecDepth 100000 in
set_option maxHeartbeats 4000000 in
theorem c_breath {h : jH} {S : jS} (c : CI h S) (g : SG S) {x d : Int32} : jM yX6_breath cX6_breath 3 (some .int) 6 none [.ref 0, .int x, .int d] h (cAns h (sp_breath x d S, S)) := by
  obtain ⟨c1, c2, c3, c4, c5, c6, c7, c8⟩ := id c
  obtain ⟨g0, g1, g2, ⟨ok, gd, gh⟩, ⟨ga, gp⟩, gi, gt⟩ := id g
  obtain ⟨k0, k1, k2, k3, k4, k5⟩ := id ok
  obtain ⟨f, k, b, p, gg, z, hC, hV⟩ := id c4
  obtain ⟨nx, rf, hnx, hac, -⟩ := id c5
  obtain ⟨⟨at_, ht⟩, hx6, B, hB, hb⟩ := id c3
  obtain ⟨⟨rfi, hi1, hi2⟩, hi3⟩ := id c6
  obtain ⟨hk1, fk_, hk2, hk3⟩ := id c8
  obtain ⟨hf1, hf2, hf3, hf4⟩ := id c7
  refine jM.ofF (by decide +kernel) rfl (Nat.le_of_ble_eq_true rfl) (fun X hX hI => ?_)
  show jV cX6_breath RX6 6 X none 0 [some (.ref 0), some (.int x), some (.int d)] [] h
  refine e_al0 dX6_breath_0 ?_
  refine e_il1 dX6_breath_1 ?_
  refine e_cv dX6_breath_2 vX6_158 (m_X6_isPair c1 c4 (by omega)) (by decide) rfl rfl (Nat.le_of_ble_eq_true rfl) jBud0 rfl c1 ?_
  rintro _ _ ⟨rfl, rfl⟩
  refine e_if_eqB 18 dX6_breath_5 (by decide) (fun c_5 => ?_) (fun c_5 => ?_)
  · refine e_ldc dX6_breath_18 kX6_67 ?_
    exact e_iret hX dX6_breath_20 (by rw [sp_breath, if_neg c_5]; exact cAns.same c rfl) (fun z => z)
  · refine e_il2 dX6_breath_8 ?_
    refine e_iconst (nI 0) dX6_breath_9 (by decide) ?_
    refine e_bipush (nI 60) dX6_breath_10 (by decide) ?_
    refine e_cs dX6_breath_12 sX6_63 (m_X6_isWithinR (by decide) (by decide)) (by decide) rfl rfl (Nat.le_of_ble_eq_true rfl) jBud0 ?_
    rintro _ _ ⟨rfl, rfl⟩
    refine e_if_neB 21 dX6_breath_15 (by decide) (fun c_15 => ?_) (fun c_15 => ?_)
    · obtain ⟨i, hi, rfl⟩ := iN_of c_5 (by omega)
      have ei : (nI i).toNatClampNeg = i := nI_clamp (by omega)
      obtain ⟨d, ld, hd, rfl⟩ := iR_of c_15 (by decide)
      have ed : (nI d).toNatClampNeg = d := nI_clamp (by omega)
      refine e_al0 dX6_breath_21 ?_
      refine e_get dX6_breath_22 fX6_44 c1 rfl ?_
      refine e_al0 dX6_breath_25 ?_
      refine e_get dX6_breath_26 fX6_26 c1 rfl ?_
      refine e_il2 dX6_breath_29 ?_
      refine e_cv dX6_breath_30 vX6_200 (m_X2_behind (d := d) (by omega) hf1 hf2 c4 ok (by omega)) (by decide) rfl rfl (Nat.le_of_ble_eq_true rfl) jBud0 rfl hf1 ?_
      rintro _ h1 ⟨rfl, t⟩
      obtain ⟨f3, k3_, b3, p3, g3, z3, hC3, hV3⟩ := id t.2.1
      have e2 := s_it_lo d S.2.2.1 (k := 2) (by omega)
      have e3 := s_it_lo d S.2.2.1 (k := 3) (by omega)
      refine e_get dX6_breath_33 fX6_185 hC3.1 rfl ?_
      refine e_il1 dX6_breath_36 ?_
      refine e_ialdN dX6_breath_37 hC3.2.2.2.1 (by omega) (by decide) ?_
      exact e_iret hX dX6_breath_38 (by
        rw [sp_breath, if_pos c_5, if_pos c_15, ei, ed, ← (hV3.2 i (by omega)).2.1]
        exact ⟨rfl, c.tr t, t.lo⟩) (fun z => z)
    · refine e_ldc dX6_breath_18 kX6_67 ?_
      exact e_iret hX dX6_breath_20 (by rw [sp_breath, if_pos c_5, if_neg c_15]; exact cAns.same c rfl) (fun z => z)
set_option maxRecDepth 100000 in
set_option maxHeartbeats 4000000 in
theorem c_fire {h : jH} {S : jS} (c : CI h S) (g : SG S) {x d : Int32} : jM yX6_fire cX6_fire 3 (some .int) 6 none [.ref 0, .int x, .int d] h (cAns h (sp_fire x d S, S)) := by
  obtain ⟨c1, c2, c3, c4, c5, c6, c7, c8⟩ := id c
  obtain ⟨g0, g1, g2, ⟨ok, gd, gh⟩, ⟨ga, gp⟩, gi, gt⟩ := id g
  obtain ⟨k0, k1, k2, k3, k4, k5⟩ := id ok
  obtain ⟨f, k, b, p, gg, z, hC, hV⟩ := id c4
  obtain ⟨nx, rf, hnx, hac, -⟩ := id c5
  obtain ⟨⟨at_, ht⟩, hx6, B, hB, hb⟩ := id c3
  obtain ⟨⟨rfi, hi1, hi2⟩, hi3⟩ := id c6
  obtain ⟨hk1, fk_, hk2, hk3⟩ := id c8
  obtain ⟨hf1, hf2, hf3, hf4⟩ := id c7
  refine jM.ofF (by decide +kernel) rfl (Nat.le_of_ble_eq_true rfl) (fun X hX hI => ?_)
  show jV cX6_fire RX6 6 X none 0 [some (.ref 0), some (.int x), some (.int d)] [] h
  refine e_al0 dX6_fire_0 ?_
  refine e_il1 dX6_fire_1 ?_
  refine e_cv dX6_fire_2 vX6_167 (m_X6_isHearth c1 c4 (by omega)) (by decide) rfl rfl (Nat.le_of_ble_eq_true rfl) jBud0 rfl c1 ?_
  rintro _ _ ⟨rfl, rfl⟩
  refine e_if_eqB 18 dX6_fire_5 (by decide) (fun c_5 => ?_) (fun c_5 => ?_)
  · refine e_ldc dX6_fire_18 kX6_67 ?_
    exact e_iret hX dX6_fire_20 (by rw [sp_fire, if_neg c_5]; exact cAns.same c rfl) (fun z => z)
  · refine e_il2 dX6_fire_8 ?_
    refine e_iconst (nI 0) dX6_fire_9 (by decide) ?_
    refine e_bipush (nI 60) dX6_fire_10 (by decide) ?_
    refine e_cs dX6_fire_12 sX6_63 (m_X6_isWithinR (by decide) (by decide)) (by decide) rfl rfl (Nat.le_of_ble_eq_true rfl) jBud0 ?_
    rintro _ _ ⟨rfl, rfl⟩
    refine e_if_neB 21 dX6_fire_15 (by decide) (fun c_15 => ?_) (fun c_15 => ?_)
    · obtain ⟨i, hi, rfl⟩ := iN_of c_5 (by omega)
      have ei : (nI i).toNatClampNeg = i := nI_clamp (by omega)
      obtain ⟨d, ld, hd, rfl⟩ := iR_of c_15 (by decide)
      have ed : (nI d).toNatClampNeg = d := nI_clamp (by omega)
      refine e_al0 dX6_fire_21 ?_
      refine e_get dX6_fire_22 fX6_44 c1 rfl ?_
      refine e_al0 dX6_fire_25 ?_
      refine e_get dX6_fire_26 fX6_26 c1 rfl ?_
      refine e_il2 dX6_fire_29 ?_
      refine e_cv dX6_fire_30 vX6_200 (m_X2_behind (d := d) (by omega) hf1 hf2 c4 ok (by omega)) (by decide) rfl rfl (Nat.le_of_ble_eq_true rfl) jBud0 rfl hf1 ?_
      rintro _ h1 ⟨rfl, t⟩
      obtain ⟨f3, k3_, b3, p3, g3, z3, hC3, hV3⟩ := id t.2.1
      have e2 := s_it_lo d S.2.2.1 (k := 2) (by omega)
      have e3 := s_it_lo d S.2.2.1 (k := 3) (by omega)
      refine e_get dX6_fire_33 fX6_173 hC3.1 rfl ?_
      refine e_il1 dX6_fire_36 ?_
      refine e_ialdN dX6_fire_37 hC3.2.1 (by omega) (by decide) ?_
      exact e_iret hX dX6_fire_38 (by
        rw [sp_fire, if_pos c_5, if_pos c_15, ei, ed, ← hV3.1 i (by omega)]
        exact ⟨rfl, c.tr t, t.lo⟩) (fun z => z)
    · refine e_ldc dX6_fire_18 kX6_67 ?_
      exact e_iret hX dX6_fire_20 (by rw [sp_fire, if_pos c_5, if_neg c_15]; exact cAns.same c rfl) (fun z => z)
set_option maxRecDepth 100000 in
set_option maxHeartbeats 4000000 in
theorem c_lit {h : jH} {S : jS} (c : CI h S) (g : SG S) {d : Int32} : jM yX6_lit cX6_lit 2 (some .int) 6 none [.ref 0, .int d] h (cAns h (sp_lit d S, S)) := by
  obtain ⟨c1, c2, c3, c4, c5, c6, c7, c8⟩ := id c
  obtain ⟨g0, g1, g2, ⟨ok, gd, gh⟩, ⟨ga, gp⟩, gi, gt⟩ := id g
  obtain ⟨k0, k1, k2, k3, k4, k5⟩ := id ok
  obtain ⟨f, k, b, p, gg, z, hC, hV⟩ := id c4
  obtain ⟨nx, rf, hnx, hac, -⟩ := id c5
  obtain ⟨⟨at_, ht⟩, hx6, B, hB, hb⟩ := id c3
  obtain ⟨⟨rfi, hi1, hi2⟩, hi3⟩ := id c6
  obtain ⟨hk1, fk_, hk2, hk3⟩ := id c8
  obtain ⟨hf1, hf2, hf3, hf4⟩ := id c7
  refine jM.ofF (by decide +kernel) rfl (Nat.le_of_ble_eq_true rfl) (fun X hX hI => ?_)
  show jV cX6_lit RX6 6 X none 0 [some (.ref 0), some (.int d)] [] h
  refine e_al0 dX6_lit_0 ?_
  refine e_get dX6_lit_1 fX6_26 c1 rfl ?_
  refine e_cv dX6_lit_4 vX6_141 (m_X3_stands hC (by omega)) (by decide) rfl rfl (Nat.le_of_ble_eq_true rfl) jBud0 rfl hC.1 ?_
  rintro _ _ ⟨rfl, rfl⟩
  refine e_if_neB 13 dX6_lit_7 (by decide) (fun c_7 => ?_) (fun c_7 => ?_)
  · refine e_il1 dX6_lit_13 ?_
    refine e_iconst (nI 0) dX6_lit_14 (by decide) ?_
    refine e_bipush (nI 60) dX6_lit_15 (by decide) ?_
    refine e_cs dX6_lit_17 sX6_63 (m_X6_isWithinR (by decide) (by decide)) (by decide) rfl rfl (Nat.le_of_ble_eq_true rfl) jBud0 ?_
    rintro _ _ ⟨rfl, rfl⟩
    refine e_if_neB 26 dX6_lit_20 (by decide) (fun c_20 => ?_) (fun c_20 => ?_)
    · obtain ⟨d, ld, hd, rfl⟩ := iR_of c_20 (by decide)
      have ed : (nI d).toNatClampNeg = d := nI_clamp (by omega)
      refine e_al0 dX6_lit_26 ?_
      refine e_get dX6_lit_27 fX6_44 c1 rfl ?_
      refine e_al0 dX6_lit_30 ?_
      refine e_get dX6_lit_31 fX6_26 c1 rfl ?_
      refine e_il1 dX6_lit_34 ?_
      refine e_cv dX6_lit_35 vX6_200 (m_X2_behind (d := d) (by omega) hf1 hf2 c4 ok (by omega)) (by decide) rfl rfl (Nat.le_of_ble_eq_true rfl) jBud0 rfl hf1 ?_
      rintro _ h1 ⟨rfl, t⟩
      obtain ⟨f3, k3_, b3, p3, g3, z3, hC3, hV3⟩ := id t.2.1
      have e2 := s_it_lo d S.2.2.1 (k := 2) (by omega)
      have e3 := s_it_lo d S.2.2.1 (k := 3) (by omega)
      refine e_cv dX6_lit_38 vX6_154 (m_X3_litBits hC3 hV3 (s_it_ok d ok)) (by decide) rfl rfl (Nat.le_of_ble_eq_true rfl) jBud0 rfl hC3.1 ?_
      rintro _ _ ⟨rfl, rfl⟩
      exact e_iret hX dX6_lit_41 (by
        rw [sp_lit, if_pos c_7, if_pos c_20, ed]
        exact ⟨by rw [e2], c.tr t, t.lo⟩) (fun z => z)
    · refine e_ldc dX6_lit_23 kX6_67 ?_
      exact e_iret hX dX6_lit_25 (by rw [sp_lit, if_pos c_7, if_neg c_20]; exact cAns.same c rfl) (fun z => z)
  · refine e_ldc dX6_lit_10 kX6_144 ?_
    exact e_iret hX dX6_lit_12 (by rw [sp_lit, if_neg c_7]; exact cAns.same c rfl) (fun z => z)
set_option maxRecDepth 100000 in
set_option maxHeartbeats 4000000 in
theorem lp_X2_firstEmpty {h0 : jH} {v : Nat} (hv : v ≤ 1) {r : Int32} {X : jX} (hX : jRet X (some .int) none (fun v' h' => v' = some (.int r) ∧ ∃ u, cTr h0 h' u)) : ∀ (n i : Nat) (h : jH) (u : hw) (l4 : Option Value), 61 - i < n → i ≤ 61 → cTr h0 h u → g_ok u → u 4 + (61 - i) < 2 ^ 29 → s_emp v (61 - i) i u = r → jV cX2_firstEmpty RX2 4 X none 10 [some (.ref 206), some (.ref 14), some (.int (nI v)), some (.int (nI i)), l4] [] h := by
  intro n
  induction n with
  | zero => intros; omega
  | succ n ih =>
    intro i h u l4 hm hi t ok hd2 hr
    obtain ⟨f, k, b, p, g, z, hC, hV⟩ := id t.2.1
    refine e_il3 dX2_firstEmpty_10 ?_
    refine e_bipush (nI 60) dX2_firstEmpty_11 (by decide) ?_
    refine e_ic_gtN 56 dX2_firstEmpty_13 (by decide) (by omega) (by omega) (fun c_13 => ?_) (fun c_13 => ?_)
    · refine e_ldc dX2_firstEmpty_56 kX2_37 ?_
      exact e_iret hX dX2_firstEmpty_58 (⟨by rw [← hr, show 61 - i = 0 by omega]; rfl, _, t⟩) (fun z => z)
    · refine e_al0 dX2_firstEmpty_16 ?_
      refine e_get dX2_firstEmpty_17 fX2_12 t.1 rfl ?_
      refine e_cv dX2_firstEmpty_20 vX2_33 (m_X3_firstWithoutBreath hC hV ok) (by decide) rfl rfl (Nat.le_of_ble_eq_true rfl) jBud0 rfl hC.1 ?_
      rintro _ _ ⟨rfl, rfl⟩
      refine e_is4 dX2_firstEmpty_23 rfl ?_
      refine e_il4 dX2_firstEmpty_25 ?_
      refine e_ldc dX2_firstEmpty_27 kX2_37 ?_
      refine e_ic_eq 43 dX2_firstEmpty_29 (by decide) (fun c_29 => ?_) (fun c_29 => ?_)
      · refine e_al0 dX2_firstEmpty_43 ?_
        refine e_get dX2_firstEmpty_44 fX2_12 t.1 rfl ?_
        refine e_cv dX2_firstEmpty_47 vX2_38 (m_passT t ok (by omega)) (by decide) rfl rfl (Nat.le_of_ble_eq_true rfl) jBud0 rfl hC.1 ?_
        rintro _ h1 ⟨rfl, t1⟩
        refine e_inc3N dX2_firstEmpty_50 rfl ?_
        refine e_goto 10 dX2_firstEmpty_53 (by decide) ?_
        exact ih (i + 1) _ _ _ (by omega) (by omega) t1 (s_pass_ok ok) (by rw [s_pass_4]; omega) (by rw [← hr, show 61 - i = (61 - (i + 1)) + 1 by omega, s_emp, if_pos c_29])
      · refine e_il2 dX2_firstEmpty_32 ?_
        refine e_if_neN 41 dX2_firstEmpty_33 (by decide) (by omega) (fun c_33 => ?_) (fun c_33 => ?_)
        · refine e_il3 dX2_firstEmpty_41 ?_
          exact e_iret hX dX2_firstEmpty_42 (⟨by rw [← hr, show 61 - i = (61 - (i + 1)) + 1 by omega, s_emp, if_neg c_29, if_neg (by omega)], _, t⟩) (fun z => z)
        · refine e_il4 dX2_firstEmpty_36 ?_
          refine e_goto 42 dX2_firstEmpty_38 (by decide) ?_
          exact e_iret hX dX2_firstEmpty_42 (⟨by rw [← hr, show 61 - i = (61 - (i + 1)) + 1 by omega, s_emp, if_neg c_29, if_pos c_33], _, t⟩) (fun z => z)
set_option maxRecDepth 100000 in
set_option maxHeartbeats 4000000 in
theorem m_X2_firstEmpty {h : jH} {w : hw} (hf1 : h[206]? = some (jO 2 [.ref 207, .ref 214, .ref 215])) (hf2 : HX h 207) (hN : HA h 14 w) (ok : g_ok w) (hd2 : w 4 < 2 ^ 28) {v : Nat} (hv : v ≤ 1) : jM yX2_firstEmpty cX2_firstEmpty 5 (some .int) 4 none [.ref 206, .ref 14, .int (nI v)] h (fun v' h' => v' = some (.int (s_emp v 61 0 w)) ∧ ∃ u, cTr h h' u) := by
  have h8 := ok.2.2.1
  have h7 := ok.2.2.2.1
  have hf2s := hf2.sh
  refine jM.ofF (by decide +kernel) rfl (Nat.le_of_ble_eq_true rfl) (fun X hX hI => ?_)
  show jV cX2_firstEmpty RX2 4 X none 0 [some (.ref 206), some (.ref 14), some (.int (nI v)), none, none] [] h
  refine e_al0 dX2_firstEmpty_0 ?_
  refine e_get dX2_firstEmpty_1 fX2_12 hf1 rfl ?_
  refine e_al1 dX2_firstEmpty_4 ?_
  refine e_cv dX2_firstEmpty_5 vX2_25 (m_becomeT hf1 hf2 jEq.rf hN h8 h7) (by decide) rfl rfl (Nat.le_of_ble_eq_true rfl) jBud0 rfl hf2s.choose_spec ?_
  rintro _ h1 ⟨rfl, t⟩
  refine e_iconst (nI 0) dX2_firstEmpty_8 (by decide) ?_
  refine e_is3 dX2_firstEmpty_9 rfl ?_
  exact lp_X2_firstEmpty hv hX 62 0 _ w none (by omega) (by omega) t ok (by omega) rfl
set_option maxRecDepth 100000 in
set_option maxHeartbeats 4000000 in
theorem c_empty {h : jH} {S : jS} (c : CI h S) (g : SG S) {v : Int32} : jM yX6_empty cX6_empty 2 (some .int) 5 none [.ref 0, .int v] h (cAns h (sp_empty v S, S)) := by
  obtain ⟨c1, c2, c3, c4, c5, c6, c7, c8⟩ := id c
  obtain ⟨g0, g1, g2, ⟨ok, gd, gh⟩, ⟨ga, gp⟩, gi, gt⟩ := id g
  obtain ⟨k0, k1, k2, k3, k4, k5⟩ := id ok
  obtain ⟨f, k, b, p, gg, z, hC, hV⟩ := id c4
  obtain ⟨nx, rf, hnx, hac, -⟩ := id c5
  obtain ⟨⟨at_, ht⟩, hx6, B, hB, hb⟩ := id c3
  obtain ⟨⟨rfi, hi1, hi2⟩, hi3⟩ := id c6
  obtain ⟨hk1, fk_, hk2, hk3⟩ := id c8
  obtain ⟨hf1, hf2, hf3, hf4⟩ := id c7
  refine jM.ofF (by decide +kernel) rfl (Nat.le_of_ble_eq_true rfl) (fun X hX hI => ?_)
  show jV cX6_empty RX6 5 X none 0 [some (.ref 0), some (.int v)] [] h
  refine e_al0 dX6_empty_0 ?_
  refine e_get dX6_empty_1 fX6_26 c1 rfl ?_
  refine e_cv dX6_empty_4 vX6_141 (m_X3_stands hC (by omega)) (by decide) rfl rfl (Nat.le_of_ble_eq_true rfl) jBud0 rfl hC.1 ?_
  rintro _ _ ⟨rfl, rfl⟩
  refine e_if_neB 13 dX6_empty_7 (by decide) (fun c_7 => ?_) (fun c_7 => ?_)
  · refine e_il1 dX6_empty_13 ?_
    refine e_iconst (nI 0) dX6_empty_14 (by decide) ?_
    refine e_iconst (nI 1) dX6_empty_15 (by decide) ?_
    refine e_cs dX6_empty_16 sX6_63 (m_X6_isWithinR (by decide) (by decide)) (by decide) rfl rfl (Nat.le_of_ble_eq_true rfl) jBud0 ?_
    rintro _ _ ⟨rfl, rfl⟩
    refine e_if_neB 25 dX6_empty_19 (by decide) (fun c_19 => ?_) (fun c_19 => ?_)
    · obtain ⟨v, lv, hv, rfl⟩ := iR_of c_19 (by decide)
      have ev : (nI v).toNatClampNeg = v := nI_clamp (by omega)
      refine e_al0 dX6_empty_25 ?_
      refine e_get dX6_empty_26 fX6_44 c1 rfl ?_
      refine e_al0 dX6_empty_29 ?_
      refine e_get dX6_empty_30 fX6_26 c1 rfl ?_
      refine e_il1 dX6_empty_33 ?_
      refine e_cv dX6_empty_34 vX6_204 (m_X2_firstEmpty hf1 hf2 c4 ok (by omega) hv) (by decide) rfl rfl (Nat.le_of_ble_eq_true rfl) jBud0 rfl hf1 ?_
      rintro _ h1 ⟨rfl, u, t⟩
      exact e_iret hX dX6_empty_37 (by
        rw [sp_empty, if_pos c_7, if_pos c_19, ev]
        exact ⟨rfl, c.tr t, t.lo⟩) (fun z => z)
    · refine e_ldc dX6_empty_22 kX6_67 ?_
      exact e_iret hX dX6_empty_24 (by rw [sp_empty, if_pos c_7, if_neg c_19]; exact cAns.same c rfl) (fun z => z)
  · refine e_ldc dX6_empty_10 kX6_144 ?_
    exact e_iret hX dX6_empty_12 (by rw [sp_empty, if_neg c_7]; exact cAns.same c rfl) (fun z => z)
set_option maxRecDepth 100000 in
set_option maxHeartbeats 4000000 in
theorem lp_X2_firstCold {h0 : jH} {m : Nat} {r : Int32} {X : jX} (hX : jRet X (some .int) none (fun v' h' => v' = some (.int r) ∧ ∃ u, cTr h0 h' u)) : ∀ (n i : Nat) (h : jH) (u : hw), 61 - i < n → i ≤ 61 → cTr h0 h u → g_ok u → u 4 + (61 - i) < 2 ^ 29 → m < u 2 → s_cld m (61 - i) i u = r → jV cX2_firstCold RX2 4 X none 10 [some (.ref 206), some (.ref 14), some (.int (nI m)), some (.int (nI i))] [] h := by
  intro n
  induction n with
  | zero => intros; omega
  | succ n ih =>
    intro i h u hm hi t ok hd2 hm2 hr
    obtain ⟨f, k, b, p, g, z, hC, hV⟩ := id t.2.1
    refine e_il3 dX2_firstCold_10 ?_
    refine e_bipush (nI 60) dX2_firstCold_11 (by decide) ?_
    refine e_ic_gtN 42 dX2_firstCold_13 (by decide) (by omega) (by omega) (fun c_13 => ?_) (fun c_13 => ?_)
    · refine e_ldc dX2_firstCold_42 kX2_37 ?_
      exact e_iret hX dX2_firstCold_44 (⟨by rw [← hr, show 61 - i = 0 by omega]; rfl, _, t⟩) (fun z => z)
    · refine e_al0 dX2_firstCold_16 ?_
      refine e_get dX2_firstCold_17 fX2_12 t.1 rfl ?_
      refine e_il2 dX2_firstCold_20 ?_
      refine e_cv dX2_firstCold_21 vX2_41 (m_X3_isLit hC (i := m) (by have := ok.2.2.1; omega) (by rw [hV.1 m (by omega)]; have := ok.2.2.2.2.1 m (by omega); omega)) (by decide) rfl rfl (Nat.le_of_ble_eq_true rfl) jBud0 rfl hC.1 ?_
      rintro _ _ ⟨rfl, rfl⟩
      refine e_if_neB 29 dX2_firstCold_24 (by decide) (fun c_24 => ?_) (fun c_24 => ?_)
      · refine e_al0 dX2_firstCold_29 ?_
        refine e_get dX2_firstCold_30 fX2_12 t.1 rfl ?_
        refine e_cv dX2_firstCold_33 vX2_38 (m_passT t ok (by omega)) (by decide) rfl rfl (Nat.le_of_ble_eq_true rfl) jBud0 rfl hC.1 ?_
        rintro _ h1 ⟨rfl, t1⟩
        refine e_inc3N dX2_firstCold_36 rfl ?_
        refine e_goto 10 dX2_firstCold_39 (by decide) ?_
        exact ih (i + 1) _ _ (by omega) (by omega) t1 (s_pass_ok ok) (by rw [s_pass_4]; omega) (by rw [s_pass_2]; exact hm2) (by rw [← hr, show 61 - i = (61 - (i + 1)) + 1 by omega, s_cld, if_pos (by rw [← hV.1 m (by omega)]; exact c_24)])
      · refine e_il3 dX2_firstCold_27 ?_
        exact e_iret hX dX2_firstCold_28 (⟨by rw [← hr, show 61 - i = (61 - (i + 1)) + 1 by omega, s_cld, if_neg (by rw [← hV.1 m (by omega)]; exact c_24)], _, t⟩) (fun z => z)
set_option maxRecDepth 100000 in
set_option maxHeartbeats 4000000 in
theorem m_X2_firstCold {h : jH} {w : hw} (hf1 : h[206]? = some (jO 2 [.ref 207, .ref 214, .ref 215])) (hf2 : HX h 207) (hN : HA h 14 w) (ok : g_ok w) (hd2 : w 4 < 2 ^ 28) {m : Nat} (hm : m < w 2) : jM yX2_firstCold cX2_firstCold 4 (some .int) 4 none [.ref 206, .ref 14, .int (nI m)] h (fun v' h' => v' = some (.int (s_cld m 61 0 w)) ∧ ∃ u, cTr h h' u) := by
  have h8 := ok.2.2.1
  have h7 := ok.2.2.2.1
  have hf2s := hf2.sh
  refine jM.ofF (by decide +kernel) rfl (Nat.le_of_ble_eq_true rfl) (fun X hX hI => ?_)
  show jV cX2_firstCold RX2 4 X none 0 [some (.ref 206), some (.ref 14), some (.int (nI m)), none] [] h
  refine e_al0 dX2_firstCold_0 ?_
  refine e_get dX2_firstCold_1 fX2_12 hf1 rfl ?_
  refine e_al1 dX2_firstCold_4 ?_
  refine e_cv dX2_firstCold_5 vX2_25 (m_becomeT hf1 hf2 jEq.rf hN h8 h7) (by decide) rfl rfl (Nat.le_of_ble_eq_true rfl) jBud0 rfl hf2s.choose_spec ?_
  rintro _ h1 ⟨rfl, t⟩
  refine e_iconst (nI 0) dX2_firstCold_8 (by decide) ?_
  refine e_is3 dX2_firstCold_9 rfl ?_
  exact lp_X2_firstCold hX 62 0 _ w (by omega) (by omega) t ok (by omega) hm rfl
set_option maxRecDepth 100000 in
set_option maxHeartbeats 4000000 in
theorem c_cold {h : jH} {S : jS} (c : CI h S) (g : SG S) {x : Int32} : jM yX6_cold cX6_cold 2 (some .int) 5 none [.ref 0, .int x] h (cAns h (sp_cold x S, S)) := by
  obtain ⟨c1, c2, c3, c4, c5, c6, c7, c8⟩ := id c
  obtain ⟨g0, g1, g2, ⟨ok, gd, gh⟩, ⟨ga, gp⟩, gi, gt⟩ := id g
  obtain ⟨k0, k1, k2, k3, k4, k5⟩ := id ok
  obtain ⟨f, k, b, p, gg, z, hC, hV⟩ := id c4
  obtain ⟨nx, rf, hnx, hac, -⟩ := id c5
  obtain ⟨⟨at_, ht⟩, hx6, B, hB, hb⟩ := id c3
  obtain ⟨⟨rfi, hi1, hi2⟩, hi3⟩ := id c6
  obtain ⟨hk1, fk_, hk2, hk3⟩ := id c8
  obtain ⟨hf1, hf2, hf3, hf4⟩ := id c7
  refine jM.ofF (by decide +kernel) rfl (Nat.le_of_ble_eq_true rfl) (fun X hX hI => ?_)
  show jV cX6_cold RX6 5 X none 0 [some (.ref 0), some (.int x)] [] h
  refine e_al0 dX6_cold_0 ?_
  refine e_il1 dX6_cold_1 ?_
  refine e_cv dX6_cold_2 vX6_167 (m_X6_isHearth c1 c4 (by omega)) (by decide) rfl rfl (Nat.le_of_ble_eq_true rfl) jBud0 rfl c1 ?_
  rintro _ _ ⟨rfl, rfl⟩
  refine e_if_neB 11 dX6_cold_5 (by decide) (fun c_5 => ?_) (fun c_5 => ?_)
  · obtain ⟨i, hi, rfl⟩ := iN_of c_5 (by omega)
    have ei : (nI i).toNatClampNeg = i := nI_clamp (by omega)
    refine e_al0 dX6_cold_11 ?_
    refine e_get dX6_cold_12 fX6_44 c1 rfl ?_
    refine e_al0 dX6_cold_15 ?_
    refine e_get dX6_cold_16 fX6_26 c1 rfl ?_
    refine e_il1 dX6_cold_19 ?_
    refine e_cv dX6_cold_20 vX6_208 (m_X2_firstCold hf1 hf2 c4 ok (by omega) hi) (by decide) rfl rfl (Nat.le_of_ble_eq_true rfl) jBud0 rfl hf1 ?_
    rintro _ h1 ⟨rfl, u, t⟩
    exact e_iret hX dX6_cold_23 (by
      rw [sp_cold, if_pos c_5, ei]
      exact ⟨rfl, c.tr t, t.lo⟩) (fun z => z)
  · refine e_ldc dX6_cold_8 kX6_67 ?_
    exact e_iret hX dX6_cold_10 (by rw [sp_cold, if_neg c_5]; exact cAns.same c rfl) (fun z => z)
set_option maxRecDepth 100000 in
set_option maxHeartbeats 4000000 in
theorem lp_X7_goesOn {h0 : jH} {s : Nat → Int32} {w : hw} {d : Nat} (hd : d < 1000) {T : hw} {X : jX} (hX : jRet X (none) none (fun v h' => v = none ∧ rTr h0 h' s w T)) : ∀ (n i : Nat) (h : jH) (u : hw), d - i < n → i ≤ d → rTr h0 h s w u → g_ok u → u 4 + (d - i) < 2 ^ 29 → s_it (d - i) u = T → jV cX7_goesOn RX7 4 X none 2 [some (.ref 218), some (.int (nI d)), some (.int (nI i))] [] h := by
  intro n
  induction n with
  | zero => intros; omega
  | succ n ih =>
    intro i h u hm hi t ok hd2 hr
    refine e_il2 dX7_goesOn_2 ?_
    refine e_il1 dX7_goesOn_3 ?_
    refine e_ic_geN 21 dX7_goesOn_4 (by decide) (by omega) (by omega) (fun c_4 => ?_) (fun c_4 => ?_)
    · exact e_ret hX dX7_goesOn_21 (⟨rfl, by rw [← hr, show d - i = 0 by omega]; exact t⟩) (fun z => z)
    · refine e_al0 dX7_goesOn_7 ?_
      refine e_al0 dX7_goesOn_8 ?_
      refine e_get dX7_goesOn_9 fX7_31 t.1 rfl ?_
      refine e_cv dX7_goesOn_12 vX7_187 (m_X7_passT t ok (by omega)) (by decide) rfl rfl (Nat.le_of_ble_eq_true rfl) jBud0 rfl t.1 ?_
      rintro _ h1 ⟨rfl, t1⟩
      refine e_inc2N dX7_goesOn_15 rfl ?_
      refine e_goto 2 dX7_goesOn_18 (by decide) ?_
      exact ih (i + 1) _ _ (by omega) (by omega) t1 (s_pass_ok ok) (by rw [s_pass_4]; omega) (by rw [← hr, show d - i = (d - (i + 1)) + 1 by omega]; rfl)
set_option maxRecDepth 100000 in
set_option maxHeartbeats 4000000 in
theorem m_X7_goesOn {h0 h : jH} {s : Nat → Int32} {w u : hw} {d : Nat} (hd : d < 1000) (t : rTr h0 h s w u) (ok : g_ok u) (hd2 : u 4 < 2 ^ 28) : jM yX7_goesOn cX7_goesOn 3 (none : Option Jvm.ClassFile.FieldType) 4 none [.ref 218, .int (nI d)] h (fun v h' => v = none ∧ rTr h0 h' s w (s_it d u)) := by
  refine jM.ofF (by decide +kernel) rfl (Nat.le_of_ble_eq_true rfl) (fun X hX hI => ?_)
  show jV cX7_goesOn RX7 4 X none 0 [some (.ref 218), some (.int (nI d)), none] [] h
  refine e_iconst (nI 0) dX7_goesOn_0 (by decide) ?_
  refine e_is2 dX7_goesOn_1 rfl ?_
  exact lp_X7_goesOn hd hX (d + 1) 0 h u (by omega) (by omega) t ok (by omega) rfl
set_option maxRecDepth 100000 in
set_option maxHeartbeats 4000000 in
theorem r_breath {h : jH} {S : jS} (c : RI h S) (g : SG S) {x d : Int32} : jM yX7_breath cX7_breath 3 (some .int) 5 none [.ref 218, .int x, .int d] h (rAns h (sp_breath x d S, S)) := by
  obtain ⟨⟨s, hO, s0, s1, s2, s8, s9⟩, c2, c3, hW, c5, c6, c7, c8⟩ := id c
  obtain ⟨g0, g1, g2, ⟨ok, gd, gh⟩, ⟨ga, gp⟩, gi, gt⟩ := id g
  obtain ⟨k0, k1, k2, k3, k4, k5⟩ := id ok
  obtain ⟨B, hB, hb⟩ := id c3
  obtain ⟨Pa, hP, hPa⟩ := id c5
  obtain ⟨Im, Kk, hI1, hI2, hI3, hI4⟩ := id c6
  obtain ⟨⟨x1, hx1⟩, ⟨x2, hx2⟩, ⟨x3, hx3⟩, ⟨x4, hx4⟩, ⟨x5, hx5⟩, x6, hx6⟩ := id c7
  obtain ⟨tf, ht1, ht2⟩ := id c8
  have t0 : rTr h h s S.2.2.1 x2 := ⟨hO, hW, hx2, ⟨x3, hx3⟩, ⟨x4, hx4⟩, jEq.rf⟩
  refine jM.ofF (by decide +kernel) rfl (Nat.le_of_ble_eq_true rfl) (fun X hX hI => ?_)
  show jV cX7_breath RX7 5 X none 0 [some (.ref 218), some (.int x), some (.int d)] [] h
  refine e_al0 dX7_breath_0 ?_
  refine e_il1 dX7_breath_1 ?_
  refine e_cv dX7_breath_2 vX7_195 (m_X7_isPair hO hW (by omega)) (by decide) rfl rfl (Nat.le_of_ble_eq_true rfl) jBud0 rfl hO ?_
  rintro _ _ ⟨rfl, rfl⟩
  refine e_if_eqB 18 dX7_breath_5 (by decide) (fun c_5 => ?_) (fun c_5 => ?_)
  · refine e_ldc dX7_breath_18 kX7_73 ?_
    exact e_iret hX dX7_breath_20 (by rw [sp_breath, if_neg c_5]; exact rAns.same c rfl) (fun z => z)
  · refine e_il2 dX7_breath_8 ?_
    refine e_iconst (nI 0) dX7_breath_9 (by decide) ?_
    refine e_bipush (nI 60) dX7_breath_10 (by decide) ?_
    refine e_cs dX7_breath_12 sX7_65 (m_X7_inR (by decide) (by decide)) (by decide) rfl rfl (Nat.le_of_ble_eq_true rfl) jBud0 ?_
    rintro _ _ ⟨rfl, rfl⟩
    refine e_if_neB 21 dX7_breath_15 (by decide) (fun c_15 => ?_) (fun c_15 => ?_)
    · obtain ⟨i, hi, rfl⟩ := iN_of c_5 (by omega)
      have ei : (nI i).toNatClampNeg = i := nI_clamp (by omega)
      obtain ⟨d, ld, hd, rfl⟩ := iR_of c_15 (by decide)
      have ed : (nI d).toNatClampNeg = d := nI_clamp (by omega)
      refine e_al0 dX7_breath_21 ?_
      refine e_get dX7_breath_22 fX7_25 hO rfl ?_
      refine e_iconst (nI 0) dX7_breath_25 (by decide) ?_
      refine e_al0 dX7_breath_26 ?_
      refine e_get dX7_breath_27 fX7_31 hO rfl ?_
      refine e_iconst (nI 0) dX7_breath_30 (by decide) ?_
      refine e_cs dX7_breath_31 sX7_147 (m_X7_copyT t0) (by decide) rfl rfl (Nat.le_of_ble_eq_true rfl) jBud0 ?_
      rintro _ h1 ⟨rfl, t⟩
      refine e_al0 dX7_breath_34 ?_
      refine e_il2 dX7_breath_35 ?_
      refine e_cv dX7_breath_36 vX7_210 (m_X7_goesOn (d := d) (by omega) t ok (by omega)) (by decide) rfl rfl (Nat.le_of_ble_eq_true rfl) jBud0 rfl t.1 ?_
      rintro _ h2 ⟨rfl, t⟩
      refine e_al0 dX7_breath_39 ?_
      refine e_get dX7_breath_40 fX7_31 t.1 rfl ?_
      refine e_bipush (nI 13) dX7_breath_43 (by decide) ?_
      refine e_iconst (nI 4) dX7_breath_45 (by decide) ?_
      refine e_il1 dX7_breath_46 ?_
      refine e_imulN dX7_breath_47 ?_
      refine e_iaddN dX7_breath_48 ?_
      refine e_iconst (nI 1) dX7_breath_49 (by decide) ?_
      refine e_iaddN dX7_breath_50 ?_
      refine e_ialdN dX7_breath_51 t.2.2.1 (by omega) (by decide) ?_
      exact e_iret hX dX7_breath_52 (by
        rw [sp_breath, if_pos c_5, if_pos c_15, ei, ed]
        exact ⟨rfl, c.tr t, t.hi⟩) (fun z => z)
    · refine e_ldc dX7_breath_18 kX7_73 ?_
      exact e_iret hX dX7_breath_20 (by rw [sp_breath, if_pos c_5, if_neg c_15]; exact rAns.same c rfl) (fun z => z)
set_option maxRecDepth 100000 in
set_option maxHeartbeats 4000000 in
theorem r_fire {h : jH} {S : jS} (c : RI h S) (g : SG S) {x d : Int32} : jM yX7_fire cX7_fire 3 (some .int) 5 none [.ref 218, .int x, .int d] h (rAns h (sp_fire x d S, S)) := by
  obtain ⟨⟨s, hO, s0, s1, s2, s8, s9⟩, c2, c3, hW, c5, c6, c7, c8⟩ := id c
  obtain ⟨g0, g1, g2, ⟨ok, gd, gh⟩, ⟨ga, gp⟩, gi, gt⟩ := id g
  obtain ⟨k0, k1, k2, k3, k4, k5⟩ := id ok
  obtain ⟨B, hB, hb⟩ := id c3
  obtain ⟨Pa, hP, hPa⟩ := id c5
  obtain ⟨Im, Kk, hI1, hI2, hI3, hI4⟩ := id c6
  obtain ⟨⟨x1, hx1⟩, ⟨x2, hx2⟩, ⟨x3, hx3⟩, ⟨x4, hx4⟩, ⟨x5, hx5⟩, x6, hx6⟩ := id c7
  obtain ⟨tf, ht1, ht2⟩ := id c8
  have t0 : rTr h h s S.2.2.1 x2 := ⟨hO, hW, hx2, ⟨x3, hx3⟩, ⟨x4, hx4⟩, jEq.rf⟩
  refine jM.ofF (by decide +kernel) rfl (Nat.le_of_ble_eq_true rfl) (fun X hX hI => ?_)
  show jV cX7_fire RX7 5 X none 0 [some (.ref 218), some (.int x), some (.int d)] [] h
  refine e_al0 dX7_fire_0 ?_
  refine e_il1 dX7_fire_1 ?_
  refine e_cv dX7_fire_2 vX7_201 (m_X7_isHearth hO hW (by omega)) (by decide) rfl rfl (Nat.le_of_ble_eq_true rfl) jBud0 rfl hO ?_
  rintro _ _ ⟨rfl, rfl⟩
  refine e_if_eqB 18 dX7_fire_5 (by decide) (fun c_5 => ?_) (fun c_5 => ?_)
  · refine e_ldc dX7_fire_18 kX7_73 ?_
    exact e_iret hX dX7_fire_20 (by rw [sp_fire, if_neg c_5]; exact rAns.same c rfl) (fun z => z)
  · refine e_il2 dX7_fire_8 ?_
    refine e_iconst (nI 0) dX7_fire_9 (by decide) ?_
    refine e_bipush (nI 60) dX7_fire_10 (by decide) ?_
    refine e_cs dX7_fire_12 sX7_65 (m_X7_inR (by decide) (by decide)) (by decide) rfl rfl (Nat.le_of_ble_eq_true rfl) jBud0 ?_
    rintro _ _ ⟨rfl, rfl⟩
    refine e_if_neB 21 dX7_fire_15 (by decide) (fun c_15 => ?_) (fun c_15 => ?_)
    · obtain ⟨i, hi, rfl⟩ := iN_of c_5 (by omega)
      have ei : (nI i).toNatClampNeg = i := nI_clamp (by omega)
      obtain ⟨d, ld, hd, rfl⟩ := iR_of c_15 (by decide)
      have ed : (nI d).toNatClampNeg = d := nI_clamp (by omega)
      refine e_al0 dX7_fire_21 ?_
      refine e_get dX7_fire_22 fX7_25 hO rfl ?_
      refine e_iconst (nI 0) dX7_fire_25 (by decide) ?_
      refine e_al0 dX7_fire_26 ?_
      refine e_get dX7_fire_27 fX7_31 hO rfl ?_
      refine e_iconst (nI 0) dX7_fire_30 (by decide) ?_
      refine e_cs dX7_fire_31 sX7_147 (m_X7_copyT t0) (by decide) rfl rfl (Nat.le_of_ble_eq_true rfl) jBud0 ?_
      rintro _ h1 ⟨rfl, t⟩
      refine e_al0 dX7_fire_34 ?_
      refine e_il2 dX7_fire_35 ?_
      refine e_cv dX7_fire_36 vX7_210 (m_X7_goesOn (d := d) (by omega) t ok (by omega)) (by decide) rfl rfl (Nat.le_of_ble_eq_true rfl) jBud0 rfl t.1 ?_
      rintro _ h2 ⟨rfl, t⟩
      refine e_al0 dX7_fire_39 ?_
      refine e_get dX7_fire_40 fX7_31 t.1 rfl ?_
      refine e_iconst (nI 5) dX7_fire_43 (by decide) ?_
      refine e_il1 dX7_fire_44 ?_
      refine e_iaddN dX7_fire_45 ?_
      refine e_ialdN dX7_fire_46 t.2.2.1 (by omega) (by decide) ?_
      exact e_iret hX dX7_fire_47 (by
        rw [sp_fire, if_pos c_5, if_pos c_15, ei, ed]
        exact ⟨rfl, c.tr t, t.hi⟩) (fun z => z)
    · refine e_ldc dX7_fire_18 kX7_73 ?_
      exact e_iret hX dX7_fire_20 (by rw [sp_fire, if_pos c_5, if_neg c_15]; exact rAns.same c rfl) (fun z => z)
set_option maxRecDepth 100000 in
set_option maxHeartbeats 4000000 in
theorem r_lit {h : jH} {S : jS} (c : RI h S) (g : SG S) {d : Int32} : jM yX7_lit cX7_lit 2 (some .int) 5 none [.ref 218, .int d] h (rAns h (sp_lit d S, S)) := by
  obtain ⟨⟨s, hO, s0, s1, s2, s8, s9⟩, c2, c3, hW, c5, c6, c7, c8⟩ := id c
  obtain ⟨g0, g1, g2, ⟨ok, gd, gh⟩, ⟨ga, gp⟩, gi, gt⟩ := id g
  obtain ⟨k0, k1, k2, k3, k4, k5⟩ := id ok
  obtain ⟨B, hB, hb⟩ := id c3
  obtain ⟨Pa, hP, hPa⟩ := id c5
  obtain ⟨Im, Kk, hI1, hI2, hI3, hI4⟩ := id c6
  obtain ⟨⟨x1, hx1⟩, ⟨x2, hx2⟩, ⟨x3, hx3⟩, ⟨x4, hx4⟩, ⟨x5, hx5⟩, x6, hx6⟩ := id c7
  obtain ⟨tf, ht1, ht2⟩ := id c8
  have t0 : rTr h h s S.2.2.1 x2 := ⟨hO, hW, hx2, ⟨x3, hx3⟩, ⟨x4, hx4⟩, jEq.rf⟩
  refine jM.ofF (by decide +kernel) rfl (Nat.le_of_ble_eq_true rfl) (fun X hX hI => ?_)
  show jV cX7_lit RX7 5 X none 0 [some (.ref 218), some (.int d)] [] h
  refine e_al0 dX7_lit_0 ?_
  refine e_cv dX7_lit_1 vX7_180 (m_X7_isHouse hO hW (by omega)) (by decide) rfl rfl (Nat.le_of_ble_eq_true rfl) jBud0 rfl hO ?_
  rintro _ _ ⟨rfl, rfl⟩
  refine e_if_neB 10 dX7_lit_4 (by decide) (fun c_4 => ?_) (fun c_4 => ?_)
  · refine e_il1 dX7_lit_10 ?_
    refine e_iconst (nI 0) dX7_lit_11 (by decide) ?_
    refine e_bipush (nI 60) dX7_lit_12 (by decide) ?_
    refine e_cs dX7_lit_14 sX7_65 (m_X7_inR (by decide) (by decide)) (by decide) rfl rfl (Nat.le_of_ble_eq_true rfl) jBud0 ?_
    rintro _ _ ⟨rfl, rfl⟩
    refine e_if_neB 23 dX7_lit_17 (by decide) (fun c_17 => ?_) (fun c_17 => ?_)
    · obtain ⟨d, ld, hd, rfl⟩ := iR_of c_17 (by decide)
      have ed : (nI d).toNatClampNeg = d := nI_clamp (by omega)
      refine e_al0 dX7_lit_23 ?_
      refine e_get dX7_lit_24 fX7_25 hO rfl ?_
      refine e_iconst (nI 0) dX7_lit_27 (by decide) ?_
      refine e_al0 dX7_lit_28 ?_
      refine e_get dX7_lit_29 fX7_31 hO rfl ?_
      refine e_iconst (nI 0) dX7_lit_32 (by decide) ?_
      refine e_cs dX7_lit_33 sX7_147 (m_X7_copyT t0) (by decide) rfl rfl (Nat.le_of_ble_eq_true rfl) jBud0 ?_
      rintro _ h1 ⟨rfl, t⟩
      refine e_al0 dX7_lit_36 ?_
      refine e_il1 dX7_lit_37 ?_
      refine e_cv dX7_lit_38 vX7_210 (m_X7_goesOn (d := d) (by omega) t ok (by omega)) (by decide) rfl rfl (Nat.le_of_ble_eq_true rfl) jBud0 rfl t.1 ?_
      rintro _ h2 ⟨rfl, t⟩
      refine e_al0 dX7_lit_41 ?_
      refine e_get dX7_lit_42 fX7_31 t.1 rfl ?_
      refine e_cs dX7_lit_45 sX7_191 (m_X7_litOf t.2.2.1 (s_it_ok d ok)) (by decide) rfl rfl (Nat.le_of_ble_eq_true rfl) jBud0 ?_
      rintro _ _ ⟨rfl, rfl⟩
      exact e_iret hX dX7_lit_48 (by
        rw [sp_lit, if_pos (gh.mpr c_4), if_pos c_17, ed]
        exact ⟨by rw [s_it_lo d S.2.2.1 (by omega)], c.tr t, t.hi⟩) (fun z => z)
    · refine e_ldc dX7_lit_20 kX7_73 ?_
      exact e_iret hX dX7_lit_22 (by rw [sp_lit, if_pos (gh.mpr c_4), if_neg c_17]; exact rAns.same c rfl) (fun z => z)
  · refine e_ldc dX7_lit_7 kX7_183 ?_
    exact e_iret hX dX7_lit_9 (by rw [sp_lit, if_neg (fun q => c_4 (gh.mp q))]; exact rAns.same c rfl) (fun z => z)
set_option maxRecDepth 100000 in
set_option maxHeartbeats 4000000 in
theorem lp_X7_empty2 {h0 : jH} {S : jS} (c : RI h0 S) {s : Nat → Int32} {v : Nat} (hv : v ≤ 1) {X : jX} {r : Int32} (hX : jRet X (some .int) none (rAns h0 (r, S))) {h : jH} {u : hw} {i : Nat} (t : rTr h0 h s S.2.2.1 u) (ok : g_ok u) (e3 : S.2.2.1 3 = u 3) (hr : ∀ {q : Nat}, q < 7 → s_fst u 0 (u 3) = nI q → r = if v = 0 then nI q else nI i) (K : (∀ q, q < u 3 → u (13 + 4 * q + 1) ≠ 0) → jV cX7_empty RX7 4 X none 87 [some (.ref 218), some (.int (nI v)), some (.int (nI i)), some (.int (nI (u 3)))] [] h) : ∀ (n j : Nat), u 3 - j < n → j ≤ u 3 → (∀ q, q < j → u (13 + 4 * q + 1) ≠ 0) → jV cX7_empty RX7 4 X none 45 [some (.ref 218), some (.int (nI v)), some (.int (nI i)), some (.int (nI j))] [] h := by
  have u7 := ok.2.2.2.1
  intro n
  induction n with
  | zero => intros; omega
  | succ n ih =>
    intro j hm hj hno
    refine e_il3 dX7_empty_45 ?_
    refine e_al0 dX7_empty_46 ?_
    refine e_get dX7_empty_47 fX7_25 t.1 rfl ?_
    refine e_iconst (nI 3) dX7_empty_50 (by decide) ?_
    refine e_ialdN dX7_empty_51 t.2.1 (by omega) (by decide) ?_
    refine e_ic_geN 87 dX7_empty_52 (by decide) (by omega) (by omega) (fun c_52 => ?_) (fun c_52 => ?_)
    · rw [show j = u 3 by omega]
      exact K (fun q hq => hno q (by omega))
    · have u5 := ok.2.2.2.2.2 j (by omega)
      refine e_al0 dX7_empty_55 ?_
      refine e_get dX7_empty_56 fX7_31 t.1 rfl ?_
      refine e_bipush (nI 13) dX7_empty_59 (by decide) ?_
      refine e_iconst (nI 4) dX7_empty_61 (by decide) ?_
      refine e_il3 dX7_empty_62 ?_
      refine e_imulN dX7_empty_63 ?_
      refine e_iaddN dX7_empty_64 ?_
      refine e_iconst (nI 1) dX7_empty_65 (by decide) ?_
      refine e_iaddN dX7_empty_66 ?_
      refine e_ialdN dX7_empty_67 t.2.2.1 (by omega) (by decide) ?_
      refine e_if_neN 81 dX7_empty_68 (by decide) (by omega) (fun c_68 => ?_) (fun c_68 => ?_)
      · refine e_inc3N dX7_empty_81 rfl ?_
        refine e_goto 45 dX7_empty_84 (by decide) ?_
        exact ih (j + 1) (by omega) (by omega) (fun q hq => by
          by_cases e : q = j
          · rw [e]; omega
          · exact hno q (by omega))
      · refine e_il1 dX7_empty_71 ?_
        refine e_if_neN 79 dX7_empty_72 (by decide) (by omega) (fun c_72 => ?_) (fun c_72 => ?_)
        · refine e_il2 dX7_empty_79 ?_
          exact e_iret hX dX7_empty_80 (⟨by rw [hr (q := j) (by omega) (s_fst_some (u 3) 0 j (by omega) (by omega) c_68 (fun q _ hq => hno q hq)), if_neg (by omega)], c.tr t, t.hi⟩) (fun z => z)
        · refine e_il3 dX7_empty_75 ?_
          refine e_goto 80 dX7_empty_76 (by decide) ?_
          exact e_iret hX dX7_empty_80 (⟨by rw [hr (q := j) (by omega) (s_fst_some (u 3) 0 j (by omega) (by omega) c_68 (fun q _ hq => hno q hq)), if_pos c_72], c.tr t, t.hi⟩) (fun z => z)
set_option maxRecDepth 100000 in
set_option maxHeartbeats 4000000 in
theorem lp_X7_empty1 {h0 : jH} {S : jS} (c : RI h0 S) {s : Nat → Int32} {v : Nat} (hv : v ≤ 1) {X : jX} {r : Int32} (hX : jRet X (some .int) none (rAns h0 (r, S))) : ∀ (n i : Nat) (h : jH) (u : hw) (l3 : Option Value), 61 - i < n → i ≤ 61 → rTr h0 h s S.2.2.1 u → g_ok u → u 4 + (61 - i) < 2 ^ 29 → S.2.2.1 3 = u 3 → s_emp v (61 - i) i u = r → jV cX7_empty RX7 4 X none 37 [some (.ref 218), some (.int (nI v)), some (.int (nI i)), l3] [] h := by
  intro n
  induction n with
  | zero => intros; omega
  | succ n ih =>
    intro i h u l3 hm hi t ok hd2 e3 hr
    have u7 := ok.2.2.2.1
    refine e_il2 dX7_empty_37 ?_
    refine e_bipush (nI 61) dX7_empty_38 (by decide) ?_
    refine e_ic_geN 101 dX7_empty_40 (by decide) (by omega) (by omega) (fun c_40 => ?_) (fun c_40 => ?_)
    · refine e_ldc dX7_empty_101 kX7_59 ?_
      exact e_iret hX dX7_empty_103 (⟨by rw [← hr, show 61 - i = 0 by omega]; rfl, c.tr t, t.hi⟩) (fun z => z)
    · refine e_iconst (nI 0) dX7_empty_43 (by decide) ?_
      refine e_is3 dX7_empty_44 rfl ?_
      refine lp_X7_empty2 c hv hX t ok e3 (i := i) (fun {q} hq7 hq => ?_) (fun hno => ?_) (u 3 + 1) 0 (by omega) (by omega) (fun q hq => absurd hq (by omega))
      · have hne : ∀ p, p < 7 → nI p ≠ -1000000 := by decide +kernel
        rw [← hr, show 61 - i = (61 - (i + 1)) + 1 by omega, s_emp, if_neg (fun z => hne q hq7 (hq.symm.trans z)), hq]
      · skip
        refine e_al0 dX7_empty_87 ?_
        refine e_al0 dX7_empty_88 ?_
        refine e_get dX7_empty_89 fX7_31 t.1 rfl ?_
        refine e_cv dX7_empty_92 vX7_187 (m_X7_passT t ok (by omega)) (by decide) rfl rfl (Nat.le_of_ble_eq_true rfl) jBud0 rfl t.1 ?_
        rintro _ h1 ⟨rfl, t1⟩
        refine e_inc2N dX7_empty_95 rfl ?_
        refine e_goto 37 dX7_empty_98 (by decide) ?_
        exact ih (i + 1) _ _ _ (by omega) (by omega) t1 (s_pass_ok ok) (by rw [s_pass_4]; omega) (by rw [s_pass_3]; exact e3) (by rw [← hr, show 61 - i = (61 - (i + 1)) + 1 by omega, s_emp, if_pos ((s_fst_none (u 3) 0 (by omega)).mpr (fun q _ hq => hno q (by omega)))])
set_option maxRecDepth 100000 in
set_option maxHeartbeats 4000000 in
theorem r_empty {h : jH} {S : jS} (c : RI h S) (g : SG S) {v : Int32} : jM yX7_empty cX7_empty 4 (some .int) 4 none [.ref 218, .int v] h (rAns h (sp_empty v S, S)) := by
  obtain ⟨⟨s, hO, s0, s1, s2, s8, s9⟩, c2, c3, hW, c5, c6, c7, c8⟩ := id c
  obtain ⟨g0, g1, g2, ⟨ok, gd, gh⟩, ⟨ga, gp⟩, gi, gt⟩ := id g
  obtain ⟨k0, k1, k2, k3, k4, k5⟩ := id ok
  obtain ⟨B, hB, hb⟩ := id c3
  obtain ⟨Pa, hP, hPa⟩ := id c5
  obtain ⟨Im, Kk, hI1, hI2, hI3, hI4⟩ := id c6
  obtain ⟨⟨x1, hx1⟩, ⟨x2, hx2⟩, ⟨x3, hx3⟩, ⟨x4, hx4⟩, ⟨x5, hx5⟩, x6, hx6⟩ := id c7
  obtain ⟨tf, ht1, ht2⟩ := id c8
  have t0 : rTr h h s S.2.2.1 x2 := ⟨hO, hW, hx2, ⟨x3, hx3⟩, ⟨x4, hx4⟩, jEq.rf⟩
  refine jM.ofF (by decide +kernel) rfl (Nat.le_of_ble_eq_true rfl) (fun X hX hI => ?_)
  show jV cX7_empty RX7 4 X none 0 [some (.ref 218), some (.int v), none, none] [] h
  refine e_al0 dX7_empty_0 ?_
  refine e_cv dX7_empty_1 vX7_180 (m_X7_isHouse hO hW (by omega)) (by decide) rfl rfl (Nat.le_of_ble_eq_true rfl) jBud0 rfl hO ?_
  rintro _ _ ⟨rfl, rfl⟩
  refine e_if_neB 10 dX7_empty_4 (by decide) (fun c_4 => ?_) (fun c_4 => ?_)
  · refine e_il1 dX7_empty_10 ?_
    refine e_iconst (nI 0) dX7_empty_11 (by decide) ?_
    refine e_iconst (nI 1) dX7_empty_12 (by decide) ?_
    refine e_cs dX7_empty_13 sX7_65 (m_X7_inR (by decide) (by decide)) (by decide) rfl rfl (Nat.le_of_ble_eq_true rfl) jBud0 ?_
    rintro _ _ ⟨rfl, rfl⟩
    refine e_if_neB 22 dX7_empty_16 (by decide) (fun c_16 => ?_) (fun c_16 => ?_)
    · obtain ⟨v, lv, hv, rfl⟩ := iR_of c_16 (by decide)
      have ev : (nI v).toNatClampNeg = v := nI_clamp (by omega)
      refine e_al0 dX7_empty_22 ?_
      refine e_get dX7_empty_23 fX7_25 hO rfl ?_
      refine e_iconst (nI 0) dX7_empty_26 (by decide) ?_
      refine e_al0 dX7_empty_27 ?_
      refine e_get dX7_empty_28 fX7_31 hO rfl ?_
      refine e_iconst (nI 0) dX7_empty_31 (by decide) ?_
      refine e_cs dX7_empty_32 sX7_147 (m_X7_copyT t0) (by decide) rfl rfl (Nat.le_of_ble_eq_true rfl) jBud0 ?_
      rintro _ h1 ⟨rfl, t⟩
      refine e_iconst (nI 0) dX7_empty_35 (by decide) ?_
      refine e_is2 dX7_empty_36 rfl ?_
      rw [show sp_empty (nI v) S = s_emp v 61 0 S.2.2.1 by rw [sp_empty, if_pos (gh.mpr c_4), if_pos c_16, ev]] at hX
      exact lp_X7_empty1 c hv hX 62 0 _ _ none (by omega) (by omega) t ok (by omega) rfl rfl
    · refine e_ldc dX7_empty_19 kX7_73 ?_
      exact e_iret hX dX7_empty_21 (by rw [sp_empty, if_pos (gh.mpr c_4), if_neg c_16]; exact rAns.same c rfl) (fun z => z)
  · refine e_ldc dX7_empty_7 kX7_183 ?_
    exact e_iret hX dX7_empty_9 (by rw [sp_empty, if_neg (fun q => c_4 (gh.mp q))]; exact rAns.same c rfl) (fun z => z)
set_option maxRecDepth 100000 in
set_option maxHeartbeats 4000000 in
theorem lp_X7_cold {h0 : jH} {S : jS} (c : RI h0 S) {s : Nat → Int32} {m : Nat} {X : jX} {r : Int32} (hX : jRet X (some .int) none (rAns h0 (r, S))) : ∀ (n i : Nat) (h : jH) (u : hw), 61 - i < n → i ≤ 61 → rTr h0 h s S.2.2.1 u → g_ok u → u 4 + (61 - i) < 2 ^ 29 → m < u 2 → s_cld m (61 - i) i u = r → jV cX7_cold RX7 4 X none 26 [some (.ref 218), some (.int (nI m)), some (.int (nI i))] [] h := by
  intro n
  induction n with
  | zero => intros; omega
  | succ n ih =>
    intro i h u hm hi t ok hd2 hm2 hr
    have u2 := ok.2.2.1
    refine e_il2 dX7_cold_26 ?_
    refine e_bipush (nI 61) dX7_cold_27 (by decide) ?_
    refine e_ic_geN 59 dX7_cold_29 (by decide) (by omega) (by omega) (fun c_29 => ?_) (fun c_29 => ?_)
    · refine e_ldc dX7_cold_59 kX7_59 ?_
      exact e_iret hX dX7_cold_61 (⟨by rw [← hr, show 61 - i = 0 by omega]; rfl, c.tr t, t.hi⟩) (fun z => z)
    · have u4 := ok.2.2.2.2.1 m (by omega)
      have u2 := ok.2.2.1
      refine e_al0 dX7_cold_32 ?_
      refine e_get dX7_cold_33 fX7_31 t.1 rfl ?_
      refine e_iconst (nI 5) dX7_cold_36 (by decide) ?_
      refine e_il1 dX7_cold_37 ?_
      refine e_iaddN dX7_cold_38 ?_
      refine e_ialdN dX7_cold_39 t.2.2.1 (by omega) (by decide) ?_
      refine e_if_neN 45 dX7_cold_40 (by decide) (by omega) (fun c_40 => ?_) (fun c_40 => ?_)
      · refine e_al0 dX7_cold_45 ?_
        refine e_al0 dX7_cold_46 ?_
        refine e_get dX7_cold_47 fX7_31 t.1 rfl ?_
        refine e_cv dX7_cold_50 vX7_187 (m_X7_passT t ok (by omega)) (by decide) rfl rfl (Nat.le_of_ble_eq_true rfl) jBud0 rfl t.1 ?_
        rintro _ h1 ⟨rfl, t1⟩
        refine e_inc2N dX7_cold_53 rfl ?_
        refine e_goto 26 dX7_cold_56 (by decide) ?_
        exact ih (i + 1) _ _ (by omega) (by omega) t1 (s_pass_ok ok) (by rw [s_pass_4]; omega) (by rw [s_pass_2]; exact hm2) (by rw [← hr, show 61 - i = (61 - (i + 1)) + 1 by omega, s_cld, if_pos c_40])
      · refine e_il2 dX7_cold_43 ?_
        exact e_iret hX dX7_cold_44 (⟨by rw [← hr, show 61 - i = (61 - (i + 1)) + 1 by omega, s_cld, if_neg (by omega)], c.tr t, t.hi⟩) (fun z => z)
set_option maxRecDepth 100000 in
set_option maxHeartbeats 4000000 in
theorem r_cold {h : jH} {S : jS} (c : RI h S) (g : SG S) {x : Int32} : jM yX7_cold cX7_cold 3 (some .int) 4 none [.ref 218, .int x] h (rAns h (sp_cold x S, S)) := by
  obtain ⟨⟨s, hO, s0, s1, s2, s8, s9⟩, c2, c3, hW, c5, c6, c7, c8⟩ := id c
  obtain ⟨g0, g1, g2, ⟨ok, gd, gh⟩, ⟨ga, gp⟩, gi, gt⟩ := id g
  obtain ⟨k0, k1, k2, k3, k4, k5⟩ := id ok
  obtain ⟨B, hB, hb⟩ := id c3
  obtain ⟨Pa, hP, hPa⟩ := id c5
  obtain ⟨Im, Kk, hI1, hI2, hI3, hI4⟩ := id c6
  obtain ⟨⟨x1, hx1⟩, ⟨x2, hx2⟩, ⟨x3, hx3⟩, ⟨x4, hx4⟩, ⟨x5, hx5⟩, x6, hx6⟩ := id c7
  obtain ⟨tf, ht1, ht2⟩ := id c8
  have t0 : rTr h h s S.2.2.1 x2 := ⟨hO, hW, hx2, ⟨x3, hx3⟩, ⟨x4, hx4⟩, jEq.rf⟩
  refine jM.ofF (by decide +kernel) rfl (Nat.le_of_ble_eq_true rfl) (fun X hX hI => ?_)
  show jV cX7_cold RX7 4 X none 0 [some (.ref 218), some (.int x), none] [] h
  refine e_al0 dX7_cold_0 ?_
  refine e_il1 dX7_cold_1 ?_
  refine e_cv dX7_cold_2 vX7_201 (m_X7_isHearth hO hW (by omega)) (by decide) rfl rfl (Nat.le_of_ble_eq_true rfl) jBud0 rfl hO ?_
  rintro _ _ ⟨rfl, rfl⟩
  refine e_if_neB 11 dX7_cold_5 (by decide) (fun c_5 => ?_) (fun c_5 => ?_)
  · obtain ⟨i, hi, rfl⟩ := iN_of c_5 (by omega)
    have ei : (nI i).toNatClampNeg = i := nI_clamp (by omega)
    refine e_al0 dX7_cold_11 ?_
    refine e_get dX7_cold_12 fX7_25 hO rfl ?_
    refine e_iconst (nI 0) dX7_cold_15 (by decide) ?_
    refine e_al0 dX7_cold_16 ?_
    refine e_get dX7_cold_17 fX7_31 hO rfl ?_
    refine e_iconst (nI 0) dX7_cold_20 (by decide) ?_
    refine e_cs dX7_cold_21 sX7_147 (m_X7_copyT t0) (by decide) rfl rfl (Nat.le_of_ble_eq_true rfl) jBud0 ?_
    rintro _ h1 ⟨rfl, t⟩
    refine e_iconst (nI 0) dX7_cold_24 (by decide) ?_
    refine e_is2 dX7_cold_25 rfl ?_
    rw [show sp_cold (nI i) S = s_cld i 61 0 S.2.2.1 by rw [sp_cold, if_pos c_5, ei]] at hX
    exact lp_X7_cold c hX 62 0 _ _ (by omega) (by omega) t ok (by omega) hi rfl
  · refine e_ldc dX7_cold_8 kX7_73 ?_
    exact e_iret hX dX7_cold_10 (by rw [sp_cold, if_neg c_5]; exact rAns.same c rfl) (fun z => z)
