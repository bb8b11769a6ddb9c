set_option maxRecDepth 100000 in
set_option maxHeartbeats 4000000 in
theorem lp_X2_isKept {h0 : jH} {w : hw} (okw : g_ok w) (hd2 : w 4 < 2 ^ 28) {p q n : Nat} (hq : q < 256) (hn : n ≤ 8) {X : jX} (K : ∀ (h : jH) (l5 : Option Value), cTr h0 h (s_ch q n w) → jV cX2_isKept RX2 4 X none 54 [some (.ref 206), some (.ref 14), some (.int (nI p)), some (.int (nI n)), some (.int (nI q)), l5] [] h) : ∀ (m d : Nat) (h : jH), n - d < m → d ≤ n → cTr h0 h (s_ch q d w) → jV cX2_isKept RX2 4 X none 11 [some (.ref 206), some (.ref 14), some (.int (nI p)), some (.int (nI n)), some (.int (nI q)), some (.int (nI d))] [] h := by
  intro m
  induction m with
  | zero => intros; omega
  | succ m ih =>
    intro d h hm hd t
    obtain ⟨f, k_, b_, p_, g_, z_, hC, hV⟩ := id t.2.1
    refine e_il5 dX2_isKept_11 ?_
    refine e_il3 dX2_isKept_13 ?_
    refine e_ic_geN 54 dX2_isKept_14 (by decide) (by omega) (by omega) (fun c_14 => ?_) (fun c_14 => ?_)
    · exact K _ _ (t.cg (by rw [show d = n by omega]))
    · refine e_al0 dX2_isKept_17 ?_
      refine e_get dX2_isKept_18 fX2_12 t.1 rfl ?_
      refine e_il4 dX2_isKept_21 ?_
      refine e_il5 dX2_isKept_23 ?_
      refine e_ishrN dX2_isKept_25 (by omega) (by omega) ?_
      refine e_iconst (nI 1) dX2_isKept_26 (by decide) ?_
      refine e_iandN dX2_isKept_27 ?_
      rw [Nat.and_one_is_mod]
      refine e_iconst (nI 1) dX2_isKept_28 (by decide) ?_
      refine e_ic_neN 37 dX2_isKept_29 (by decide) (by omega) (by omega) (fun c_29 => ?_) (fun c_29 => ?_)
      · refine e_iconst (nI 0) dX2_isKept_37 (by decide) ?_
        refine e_put dX2_isKept_38 fX2_101 hC.1 (Nat.le_of_ble_eq_true rfl) (fun g => ⟨rfl, rfl⟩) ?_
        refine e_abs (fun h1 hh => ?_)
        replace t := t.wm hC hV hh
        clear hC hV hh
        obtain ⟨f, k_, b_, p_, g_, z_, hC, hV⟩ := id t.2.1
        refine e_al0 dX2_isKept_41 ?_
        refine e_get dX2_isKept_42 fX2_12 t.1 rfl ?_
        refine e_cv dX2_isKept_45 vX2_38 (m_passT t ((s_ch_ok d okw).warm (by omega)) (by rw [up_ne (by omega), s_ch_4]; omega)) (by decide) rfl rfl (Nat.le_of_ble_eq_true rfl) jBud0 rfl t.2.1.sh.choose_spec ?_
        rintro _ h2 ⟨rfl, t⟩
        refine e_inc5N dX2_isKept_48 rfl ?_
        refine e_goto 11 dX2_isKept_51 (by decide) ?_
        exact ih (d + 1) _ (by omega) (by omega) (t.cg (by rw [s_ch, s_cw, if_neg c_29]))
      · refine e_bipush (nI 15) dX2_isKept_32 (by decide) ?_
        refine e_goto 38 dX2_isKept_34 (by decide) ?_
        refine e_put dX2_isKept_38 fX2_101 hC.1 (Nat.le_of_ble_eq_true rfl) (fun g => ⟨rfl, rfl⟩) ?_
        refine e_abs (fun h1 hh => ?_)
        replace t := t.wm hC hV hh
        clear hC hV hh
        obtain ⟨f, k_, b_, p_, g_, z_, hC, hV⟩ := id t.2.1
        refine e_al0 dX2_isKept_41 ?_
        refine e_get dX2_isKept_42 fX2_12 t.1 rfl ?_
        refine e_cv dX2_isKept_45 vX2_38 (m_passT t ((s_ch_ok d okw).warm (by omega)) (by rw [up_ne (by omega), s_ch_4]; omega)) (by decide) rfl rfl (Nat.le_of_ble_eq_true rfl) jBud0 rfl t.2.1.sh.choose_spec ?_
        rintro _ h2 ⟨rfl, t⟩
        refine e_inc5N dX2_isKept_48 rfl ?_
        refine e_goto 11 dX2_isKept_51 (by decide) ?_
        exact ih (d + 1) _ (by omega) (by omega) (t.cg (by rw [s_ch, s_cw, if_pos c_29]))
set_option maxRecDepth 100000 in
set_option maxHeartbeats 4000000 in
theorem m_X2_isKept {h0 h : jH} {w : hw} (t0 : cT0 h0 h) (hN : HA h0 14 w) (ok : g_ok w) (hd2 : w 4 < 2 ^ 28) {p q n : Nat} (hp : p < w 3) (hq : q < 256) (hn : n ≤ 8) : jM yX2_isKept cX2_isKept 6 (some .boolean) 4 none [.ref 206, .ref 14, .int (nI p), .int (nI n), .int (nI q)] h (fun v h' => v = some (.int (jb (0 < s_ch q n w (13 + 4 * p + 1)))) ∧ cT0 h0 h') := by
  have h8 := ok.2.2.1
  have h7 := ok.2.2.2.1
  have hf2s := t0.2.1.sh
  refine jM.ofF (by decide +kernel) rfl (Nat.le_of_ble_eq_true rfl) (fun X hX hI => ?_)
  show jV cX2_isKept RX2 4 X none 0 [some (.ref 206), some (.ref 14), some (.int (nI p)), some (.int (nI n)), some (.int (nI q)), none] [] h
  refine e_al0 dX2_isKept_0 ?_
  refine e_get dX2_isKept_1 fX2_12 t0.1 rfl ?_
  refine e_al1 dX2_isKept_4 ?_
  refine e_cv dX2_isKept_5 vX2_25 (m_becomeT0 t0 hN h8 h7) (by decide) rfl rfl (Nat.le_of_ble_eq_true rfl) jBud0 rfl hf2s.choose_spec ?_
  rintro _ h1 ⟨rfl, t⟩
  refine e_iconst (nI 0) dX2_isKept_8 (by decide) ?_
  refine e_is5 dX2_isKept_9 rfl ?_
  refine lp_X2_isKept ok hd2 hq hn (fun h l5 t => ?_) (n + 1) 0 _ (by omega) (by omega) t
  obtain ⟨f, k_, b_, p_, g_, z_, hC, hV⟩ := id t.2.1
  have e3 := s_ch_lo (q := q) n (w := w) (k := 3) (by omega) (by omega)
  have eb := (hV.2 p (by omega)).2.1
  have o2 := ((s_ch_ok (q := q) n ok).2.2.2.2.2 p (by omega)).2.2.1
  refine e_al0 dX2_isKept_54 ?_
  refine e_get dX2_isKept_55 fX2_12 t.1 rfl ?_
  refine e_get dX2_isKept_58 fX2_116 hC.1 rfl ?_
  refine e_il2 dX2_isKept_61 ?_
  refine e_ialdN dX2_isKept_62 hC.2.2.2.1 (by omega) (by decide) ?_
  rw [eb]
  refine e_if_leN 70 dX2_isKept_63 (by decide) (by omega) (fun c_63 => ?_) (fun c_63 => ?_)
  · refine e_iconst (nI 0) dX2_isKept_70 (by decide) ?_
    exact e_zret hX dX2_isKept_71 rfl (⟨by rw [jb_fN (by omega)], t.t0⟩) (fun z => z)
  · refine e_iconst (nI 1) dX2_isKept_66 (by decide) ?_
    refine e_goto 71 dX2_isKept_67 (by decide) ?_
    exact e_zret hX dX2_isKept_71 rfl (⟨by rw [jb_tN c_63], t.t0⟩) (fun z => z)
set_option maxRecDepth 100000 in
set_option maxHeartbeats 4000000 in
theorem lp_X2_keptOf {h0 : jH} {w : hw} (hN : HA h0 14 w) (ok : g_ok w) (hd2 : w 4 < 2 ^ 28) {p n c : Nat} (hp : p < w 3) (hn : n ≤ 8) (hc : c ≤ 10) {X : jX} (hX : jRet X (some .int) none (fun v h' => v = some (.int (nI (s_ab w p n c (2 ^ n)))) ∧ cT0 h0 h')) : ∀ (m q : Nat) (h : jH) (l7 : Option Value), 2 ^ n - q < m → q ≤ 2 ^ n → cT0 h0 h → jV cX2_keptOf RX2 5 X none 6 [some (.ref 206), some (.ref 14), some (.int (nI p)), some (.int (nI n)), some (.int (nI c)), some (.int (nI (s_ab w p n c q))), some (.int (nI q)), l7] [] h := by
  have hp2 := n_p8l (i := n) hn
  intro m
  induction m with
  | zero => intros; omega
  | succ m ih =>
    intro q h l7 hm hq t0
    refine e_il6 dX2_keptOf_6 ?_
    refine e_iconst (nI 1) dX2_keptOf_8 (by decide) ?_
    refine e_il3 dX2_keptOf_9 ?_
    refine e_ishlN dX2_keptOf_10 (by omega) (by have := n_p8l (i := n) (by omega); omega) ?_
    refine e_ic_geN 64 dX2_keptOf_11 (by decide) (by omega) (by have := n_p8l (i := n) (by omega); omega) (fun c_11 => ?_) (fun c_11 => ?_)
    · refine e_il5 dX2_keptOf_64 ?_
      exact e_iret hX dX2_keptOf_66 (⟨by rw [show (2 ^ n : Nat) = q by omega], t0⟩) (fun z => z)
    · refine e_al0 dX2_keptOf_14 ?_
      refine e_al1 dX2_keptOf_15 ?_
      refine e_il2 dX2_keptOf_16 ?_
      refine e_il3 dX2_keptOf_17 ?_
      refine e_il6 dX2_keptOf_18 ?_
      refine e_cv dX2_keptOf_20 vX2_87 (m_X2_isKept t0 hN ok hd2 (p := p) (q := q) (n := n) hp (by omega) hn) (by decide) rfl rfl (Nat.le_of_ble_eq_true rfl) jBud0 rfl t0.1 ?_
      rintro _ h1 ⟨rfl, t0⟩
      refine e_if_eqB 58 dX2_keptOf_23 (by decide) (fun c_23 => ?_) (fun c_23 => ?_)
      · refine e_inc6N dX2_keptOf_58 rfl ?_
        refine e_goto 6 dX2_keptOf_61 (by decide) ?_
        have r := ih (q + 1) _ l7 (by omega) (by omega) t0
        rw [s_ab, if_neg c_23, Nat.add_zero] at r
        exact r
      · refine e_il6 dX2_keptOf_26 ?_
        refine e_cs dX2_keptOf_28 sX2_59 (m_bitCount (s := q) (by omega)) (by decide) rfl rfl (Nat.le_of_ble_eq_true rfl) jBud0 ?_
        rintro _ _ ⟨rfl, rfl⟩
        have bq := s_bits_le q 8
        have bn := s_bits_lt2 (k := n) hn (x := q) (by omega)
        refine e_is7 dX2_keptOf_31 rfl ?_
        refine e_il5 dX2_keptOf_33 ?_
        refine e_il4 dX2_keptOf_35 ?_
        refine e_il7 dX2_keptOf_37 ?_
        refine e_cn dX2_keptOf_39 wX2_91 (m_X6_power (by omega)) (by decide) rfl rfl (Nat.le_of_ble_eq_true rfl) jBud0 ?_
        rintro _ _ ⟨rfl, rfl⟩
        refine e_bipush (nI 10) dX2_keptOf_42 (by decide) ?_
        refine e_il4 dX2_keptOf_44 ?_
        refine e_isubN dX2_keptOf_46 (by omega) ?_
        refine e_il3 dX2_keptOf_47 ?_
        refine e_il7 dX2_keptOf_48 ?_
        refine e_isubN dX2_keptOf_50 (by omega) ?_
        refine e_cn dX2_keptOf_51 wX2_91 (m_X6_power (by omega)) (by decide) rfl rfl (Nat.le_of_ble_eq_true rfl) jBud0 ?_
        rintro _ _ ⟨rfl, rfl⟩
        refine e_imulN dX2_keptOf_54 ?_
        refine e_iaddN dX2_keptOf_55 ?_
        rw [s_wy_cl hn (by omega)]
        refine e_is5 dX2_keptOf_56 rfl ?_
        refine e_inc6N dX2_keptOf_58 rfl ?_
        refine e_goto 6 dX2_keptOf_61 (by decide) ?_
        have r := ih (q + 1) _ (some (.int (nI (s_bits q 8)))) (by omega) (by omega) t0
        rw [s_ab, if_pos c_23] at r
        exact r
set_option maxRecDepth 100000 in
set_option maxHeartbeats 4000000 in
theorem m_X2_keptOf {h0 : jH} {w : hw} (hN : HA h0 14 w) (ok : g_ok w) (hd2 : w 4 < 2 ^ 28) {p n c : Nat} (hp : p < w 3) (hn : n ≤ 8) (hc : c ≤ 10) {h : jH} (t0 : cT0 h0 h) : jM yX2_keptOf cX2_keptOf 8 (some .int) 5 none [.ref 206, .ref 14, .int (nI p), .int (nI n), .int (nI c)] h (fun v h' => v = some (.int (nI (s_ab w p n c (2 ^ n)))) ∧ cT0 h0 h') := by
  refine jM.ofF (by decide +kernel) rfl (Nat.le_of_ble_eq_true rfl) (fun X hX hI => ?_)
  show jV cX2_keptOf RX2 5 X none 0 [some (.ref 206), some (.ref 14), some (.int (nI p)), some (.int (nI n)), some (.int (nI c)), none, none, none] [] h
  refine e_iconst (nI 0) dX2_keptOf_0 (by decide) ?_
  refine e_is5 dX2_keptOf_1 rfl ?_
  refine e_iconst (nI 0) dX2_keptOf_3 (by decide) ?_
  refine e_is6 dX2_keptOf_4 rfl ?_
  exact lp_X2_keptOf hN ok hd2 hp hn hc hX (2 ^ n + 1) 0 h none (Nat.lt_succ_of_le (Nat.sub_le _ _)) (Nat.zero_le _) t0
set_option maxRecDepth 100000 in
set_option maxHeartbeats 4000000 in
theorem c_chance {h : jH} {S : jS} (c : CI h S) (g : SG S) {x n y v : Int32} : jM yX6_chance cX6_chance 8 (some .int) 6 none [.ref 0, .int x, .int n, .int y, .int v] h (cAns h (sp_chance x n y v S, S)) := by
  obtain ⟨c1, c2, c3, c4, c5, c6, c7, c8⟩ := id c
  obtain ⟨g0, g1, g2, ⟨ok, gd, gh⟩, ⟨ga, gp⟩, gi, gt⟩ := id g
  obtain ⟨k0, k1, k2, k3, k4, k5⟩ := id ok
  obtain ⟨f, k, b, p, gg, z, hC, hV⟩ := id c4
  obtain ⟨nx, rf, hnx, hac, -⟩ := id c5
  obtain ⟨⟨at_, ht⟩, hx6, B, hB, hb⟩ := id c3
  obtain ⟨⟨rfi, hi1, hi2⟩, hi3⟩ := id c6
  obtain ⟨hk1, fk_, hk2, hk3⟩ := id c8
  obtain ⟨hf1, hf2, hf3, hf4⟩ := id c7
  have t0 : cT0 h h := ⟨hf1, hf2, jEq.rf⟩
  refine jM.ofF (by decide +kernel) rfl (Nat.le_of_ble_eq_true rfl) (fun X hX hI => ?_)
  show jV cX6_chance RX6 6 X none 0 [some (.ref 0), some (.int x), some (.int n), some (.int y), some (.int v), none, none, none] [] h
  refine e_al0 dX6_chance_0 ?_
  refine e_il1 dX6_chance_1 ?_
  refine e_cv dX6_chance_2 vX6_158 (m_X6_isPair c1 c4 (by omega)) (by decide) rfl rfl (Nat.le_of_ble_eq_true rfl) jBud0 rfl c1 ?_
  rintro _ _ ⟨rfl, rfl⟩
  refine e_if_eqB 18 dX6_chance_5 (by decide) (fun c_5 => ?_) (fun c_5 => ?_)
  · refine e_ldc dX6_chance_18 kX6_67 ?_
    exact e_iret hX dX6_chance_20 (by rw [sp_chance, if_neg c_5]; exact cAns.same c rfl) (fun z => z)
  · refine e_il2 dX6_chance_8 ?_
    refine e_iconst (nI 0) dX6_chance_9 (by decide) ?_
    refine e_bipush (nI 8) dX6_chance_10 (by decide) ?_
    refine e_cs dX6_chance_12 sX6_63 (m_X6_isWithinR (by decide) (by decide)) (by decide) rfl rfl (Nat.le_of_ble_eq_true rfl) jBud0 ?_
    rintro _ _ ⟨rfl, rfl⟩
    refine e_if_neB 21 dX6_chance_15 (by decide) (fun c_15 => ?_) (fun c_15 => ?_)
    · refine e_il3 dX6_chance_21 ?_
      refine e_iconst (nI 0) dX6_chance_22 (by decide) ?_
      refine e_bipush (nI 10) dX6_chance_23 (by decide) ?_
      refine e_cs dX6_chance_25 sX6_63 (m_X6_isWithinR (by decide) (by decide)) (by decide) rfl rfl (Nat.le_of_ble_eq_true rfl) jBud0 ?_
      rintro _ _ ⟨rfl, rfl⟩
      refine e_if_eqB 41 dX6_chance_28 (by decide) (fun c_28 => ?_) (fun c_28 => ?_)
      · refine e_ldc dX6_chance_41 kX6_67 ?_
        exact e_iret hX dX6_chance_43 (by rw [sp_chance, if_pos c_5, if_pos c_15, if_neg c_28]; exact cAns.same c rfl) (fun z => z)
      · refine e_il4 dX6_chance_31 ?_
        refine e_iconst (nI 0) dX6_chance_33 (by decide) ?_
        refine e_iconst (nI 1) dX6_chance_34 (by decide) ?_
        refine e_cs dX6_chance_35 sX6_63 (m_X6_isWithinR (by decide) (by decide)) (by decide) rfl rfl (Nat.le_of_ble_eq_true rfl) jBud0 ?_
        rintro _ _ ⟨rfl, rfl⟩
        refine e_if_neB 44 dX6_chance_38 (by decide) (fun c_38 => ?_) (fun c_38 => ?_)
        · obtain ⟨a, ha, rfl⟩ := iN_of c_5 (by omega)
          have ea : (nI a).toNatClampNeg = a := nI_clamp (by omega)
          obtain ⟨n, ln, hn, rfl⟩ := iR_of c_15 (by decide)
          have en : (nI n).toNatClampNeg = n := nI_clamp (by omega)
          obtain ⟨d, ld, hd, rfl⟩ := iR_of c_28 (by decide)
          have ed : (nI d).toNatClampNeg = d := nI_clamp (by omega)
          obtain ⟨v, lv, hv, rfl⟩ := iR_of c_38 (by decide)
          have ev : (nI v).toNatClampNeg = v := nI_clamp (by omega)
          have ab := s_ab_le (w := S.2.2.1) (p := a) (n := n) (c := d) (2 ^ n)
          rw [s_sw_all hd hn] at ab
          have p10 := n_p10 hn
          have gp := Nat.gcd_pos_of_pos_right (s_ab S.2.2.1 a n d (2 ^ n)) p10.2
          have gl := Nat.gcd_le_right (s_ab S.2.2.1 a n d (2 ^ n)) p10.2
          refine e_al0 dX6_chance_44 ?_
          refine e_get dX6_chance_45 fX6_44 c1 rfl ?_
          refine e_al0 dX6_chance_48 ?_
          refine e_get dX6_chance_49 fX6_26 c1 rfl ?_
          refine e_il1 dX6_chance_52 ?_
          refine e_il2 dX6_chance_53 ?_
          refine e_il3 dX6_chance_54 ?_
          refine e_cv dX6_chance_55 vX6_235 (m_X2_keptOf c4 ok (by omega) ha hn hd t0) (by decide) rfl rfl (Nat.le_of_ble_eq_true rfl) jBud0 rfl hf1 ?_
          rintro _ h1 ⟨rfl, t⟩
          refine e_is5 dX6_chance_58 rfl ?_
          refine e_bipush (nI 10) dX6_chance_60 (by decide) ?_
          refine e_il2 dX6_chance_62 ?_
          refine e_cs dX6_chance_63 sX6_238 (m_X6_power (by omega)) (by decide) rfl rfl (Nat.le_of_ble_eq_true rfl) jBud0 ?_
          rintro _ _ ⟨rfl, rfl⟩
          refine e_is6 dX6_chance_66 rfl ?_
          refine e_il5 dX6_chance_68 ?_
          refine e_il6 dX6_chance_70 ?_
          refine e_cs dX6_chance_72 sX6_242 (m_X6_greatestShared (by omega) (by omega)) (by decide) rfl rfl (Nat.le_of_ble_eq_true rfl) jBud0 ?_
          rintro _ _ ⟨rfl, rfl⟩
          refine e_is7 dX6_chance_75 rfl ?_
          refine e_il7 dX6_chance_77 ?_
          refine e_if_neN 85 dX6_chance_79 (by decide) (by omega) (fun c_79 => ?_) (fun c_79 => ?_)
          · refine e_il4 dX6_chance_85 ?_
            refine e_if_neN 95 dX6_chance_87 (by decide) (by omega) (fun c_87 => ?_) (fun c_87 => ?_)
            · refine e_il6 dX6_chance_95 ?_
              refine e_il7 dX6_chance_97 ?_
              refine e_idivN dX6_chance_99 (by omega) (by omega) (by omega) ?_
              exact e_iret hX dX6_chance_100 (by
                rw [sp_chance, if_pos c_5, if_pos c_15, if_pos c_28, if_pos c_38, ea, en, ed, ev]
                exact ⟨by rw [s_chA, if_neg (by omega)], c.t0 t, t.lo⟩) (fun z => z)
            · refine e_il5 dX6_chance_90 ?_
              refine e_goto 97 dX6_chance_92 (by decide) ?_
              refine e_il7 dX6_chance_97 ?_
              refine e_idivN dX6_chance_99 (by omega) (by omega) (by omega) ?_
              exact e_iret hX dX6_chance_100 (by
                rw [sp_chance, if_pos c_5, if_pos c_15, if_pos c_28, if_pos c_38, ea, en, ed, ev]
                exact ⟨by rw [s_chA, if_pos c_87], c.t0 t, t.lo⟩) (fun z => z)
          · exact absurd c_79 (by omega)
        · refine e_ldc dX6_chance_41 kX6_67 ?_
          exact e_iret hX dX6_chance_43 (by rw [sp_chance, if_pos c_5, if_pos c_15, if_pos c_28, if_neg c_38]; exact cAns.same c rfl) (fun z => z)
    · refine e_ldc dX6_chance_18 kX6_67 ?_
      exact e_iret hX dX6_chance_20 (by rw [sp_chance, if_pos c_5, if_neg c_15]; exact cAns.same c rfl) (fun z => z)
set_option maxRecDepth 100000 in
set_option maxHeartbeats 4000000 in
theorem lp_X7_chanceA {h : jH} {p n c v : Nat} (hn : n ≤ 8) {X : jX} (K : ∀ l7 : Int32, jV cX7_chance RX7 4 X none 69 [some (.ref 218), some (.int (nI p)), some (.int (nI n)), some (.int (nI c)), some (.int (nI v)), some (.int (nI 0)), some (.int (nI (10 ^ n))), some (.int l7), none, none] [] h) : ∀ (m k : Nat), n - k < m → k ≤ n → jV cX7_chance RX7 4 X none 50 [some (.ref 218), some (.int (nI p)), some (.int (nI n)), some (.int (nI c)), some (.int (nI v)), some (.int (nI 0)), some (.int (nI (10 ^ k))), some (.int (nI k)), none, none] [] h := by
  intro m
  induction m with
  | zero => intros; omega
  | succ m ih =>
    intro k hm hk
    refine e_il7 dX7_chance_50 ?_
    refine e_il2 dX7_chance_52 ?_
    refine e_ic_geN 69 dX7_chance_53 (by decide) (by omega) (by omega) (fun c_53 => ?_) (fun c_53 => ?_)
    · rw [show k = n by omega]
      exact K _
    · refine e_il6 dX7_chance_56 ?_
      refine e_bipush (nI 10) dX7_chance_58 (by decide) ?_
      refine e_imulN dX7_chance_60 ?_
      refine e_is6 dX7_chance_61 rfl ?_
      refine e_inc7N dX7_chance_63 rfl ?_
      refine e_goto 50 dX7_chance_66 (by decide) ?_
      exact ih (k + 1) (by omega) (by omega)
set_option maxRecDepth 100000 in
set_option maxHeartbeats 4000000 in
theorem lp_X7_chanceC {h0 : jH} {s : Nat → Int32} {w : hw} (ok : g_ok w) (hd2 : w 4 < 2 ^ 28) {p n c v q ab be : Nat} (hn : n ≤ 8) (hc : c ≤ 10) (hq : q < 256) {X : jX} (K : ∀ (h : jH) (l9 : Option Value), rTr h0 h s w (s_ch q n w) → jV cX7_chance RX7 4 X none 164 [some (.ref 218), some (.int (nI p)), some (.int (nI n)), some (.int (nI c)), some (.int (nI v)), some (.int (nI ab)), some (.int (nI be)), some (.int (nI q)), some (.int (nI (s_wy q c n))), l9] [] h) : ∀ (m d : Nat) (h : jH), n - d < m → d ≤ n → rTr h0 h s w (s_ch q d w) → jV cX7_chance RX7 4 X none 99 [some (.ref 218), some (.int (nI p)), some (.int (nI n)), some (.int (nI c)), some (.int (nI v)), some (.int (nI ab)), some (.int (nI be)), some (.int (nI q)), some (.int (nI (s_wy q c d))), some (.int (nI d))] [] h := by
  intro m
  induction m with
  | zero => intros; omega
  | succ m ih =>
    intro d h hm hd t
    refine e_il9 dX7_chance_99 ?_
    refine e_il2 dX7_chance_101 ?_
    refine e_ic_geN 164 dX7_chance_102 (by decide) (by omega) (by omega) (fun c_102 => ?_) (fun c_102 => ?_)
    · rw [show d = n by omega] at t ⊢
      exact K _ _ t
    · refine e_il8 dX7_chance_105 ?_
      refine e_il7 dX7_chance_107 ?_
      refine e_il9 dX7_chance_109 ?_
      refine e_cs dX7_chance_111 sX7_154 (m_X7_has (x := q) (y := d) (by omega) (by omega)) (by decide) rfl rfl (Nat.le_of_ble_eq_true rfl) jBud0 ?_
      rintro _ _ ⟨rfl, rfl⟩
      refine e_if_eqB 121 dX7_chance_114 (by decide) (fun c_114 => ?_) (fun c_114 => ?_)
      · refine e_bipush (nI 10) dX7_chance_121 (by decide) ?_
        refine e_il3 dX7_chance_123 ?_
        refine e_isubN dX7_chance_124 (by omega) ?_
        refine e_imulN dX7_chance_125 ?_
        refine e_is8 dX7_chance_126 rfl ?_
        refine e_al0 dX7_chance_128 ?_
        refine e_get dX7_chance_129 fX7_31 t.1 rfl ?_
        refine e_iconst (nI 0) dX7_chance_132 (by decide) ?_
        refine e_il7 dX7_chance_133 ?_
        refine e_il9 dX7_chance_135 ?_
        refine e_cs dX7_chance_137 sX7_154 (m_X7_has (x := q) (y := d) (by omega) (by omega)) (by decide) rfl rfl (Nat.le_of_ble_eq_true rfl) jBud0 ?_
        rintro _ _ ⟨rfl, rfl⟩
        refine e_if_eqB 148 dX7_chance_140 (by decide) (fun c_140 => ?_) (fun c_140 => ?_)
        · refine e_iconst (nI 0) dX7_chance_148 (by decide) ?_
          refine e_iastN dX7_chance_149 t.2.2.1 (by omega) (by decide) ?_
          refine e_abs (fun h1 hh => ?_)
          replace t := t.hs hh
          clear hh
          refine e_al0 dX7_chance_150 ?_
          refine e_al0 dX7_chance_151 ?_
          refine e_get dX7_chance_152 fX7_31 t.1 rfl ?_
          refine e_cv dX7_chance_155 vX7_187 (m_X7_passT t ((s_ch_ok d ok).warm (by omega)) (by rw [up_ne (by omega), s_ch_4]; omega)) (by decide) rfl rfl (Nat.le_of_ble_eq_true rfl) jBud0 rfl t.1 ?_
          rintro _ h2 ⟨rfl, t⟩
          refine e_inc9N dX7_chance_158 rfl ?_
          refine e_goto 99 dX7_chance_161 (by decide) ?_
          have r := ih (d + 1) _ (by omega) (by omega) (t.cg (show _ = s_ch q (d + 1) w by rw [s_ch, s_cw, if_neg c_114]))
          rw [s_wy, if_neg c_114] at r
          exact r
        · exact absurd c_140 c_114
      · refine e_il3 dX7_chance_117 ?_
        refine e_goto 125 dX7_chance_118 (by decide) ?_
        refine e_imulN dX7_chance_125 ?_
        refine e_is8 dX7_chance_126 rfl ?_
        refine e_al0 dX7_chance_128 ?_
        refine e_get dX7_chance_129 fX7_31 t.1 rfl ?_
        refine e_iconst (nI 0) dX7_chance_132 (by decide) ?_
        refine e_il7 dX7_chance_133 ?_
        refine e_il9 dX7_chance_135 ?_
        refine e_cs dX7_chance_137 sX7_154 (m_X7_has (x := q) (y := d) (by omega) (by omega)) (by decide) rfl rfl (Nat.le_of_ble_eq_true rfl) jBud0 ?_
        rintro _ _ ⟨rfl, rfl⟩
        refine e_if_eqB 148 dX7_chance_140 (by decide) (fun c_140 => ?_) (fun c_140 => ?_)
        · exact absurd c_114 c_140
        · refine e_bipush (nI 15) dX7_chance_143 (by decide) ?_
          refine e_goto 149 dX7_chance_145 (by decide) ?_
          refine e_iastN dX7_chance_149 t.2.2.1 (by omega) (by decide) ?_
          refine e_abs (fun h1 hh => ?_)
          replace t := t.hs hh
          clear hh
          refine e_al0 dX7_chance_150 ?_
          refine e_al0 dX7_chance_151 ?_
          refine e_get dX7_chance_152 fX7_31 t.1 rfl ?_
          refine e_cv dX7_chance_155 vX7_187 (m_X7_passT t ((s_ch_ok d ok).warm (by omega)) (by rw [up_ne (by omega), s_ch_4]; omega)) (by decide) rfl rfl (Nat.le_of_ble_eq_true rfl) jBud0 rfl t.1 ?_
          rintro _ h2 ⟨rfl, t⟩
          refine e_inc9N dX7_chance_158 rfl ?_
          refine e_goto 99 dX7_chance_161 (by decide) ?_
          have r := ih (d + 1) _ (by omega) (by omega) (t.cg (show _ = s_ch q (d + 1) w by rw [s_ch, s_cw, if_pos c_114]))
          rw [s_wy, if_pos c_114] at r
          exact r
set_option maxRecDepth 100000 in
set_option maxHeartbeats 4000000 in
theorem lp_X7_chanceB {h0 : jH} {s : Nat → Int32} {w : hw} (ok : g_ok w) (hd2 : w 4 < 2 ^ 28) {p n c v : Nat} (hp : p < w 3) (hn : n ≤ 8) (hc : c ≤ 10) {X : jX} (K : ∀ (h : jH) (u : hw) (l7 : Int32) (l8 l9 : Option Value), rTr h0 h s w u → jV cX7_chance RX7 4 X none 197 [some (.ref 218), some (.int (nI p)), some (.int (nI n)), some (.int (nI c)), some (.int (nI v)), some (.int (nI (s_ab w p n c (2 ^ n)))), some (.int (nI (10 ^ n))), some (.int l7), l8, l9] [] h) : ∀ (m q : Nat) (h : jH) (u : hw) (l8 l9 : Option Value), 2 ^ n - q < m → q ≤ 2 ^ n → rTr h0 h s w u → jV cX7_chance RX7 4 X none 72 [some (.ref 218), some (.int (nI p)), some (.int (nI n)), some (.int (nI c)), some (.int (nI v)), some (.int (nI (s_ab w p n c q))), some (.int (nI (10 ^ n))), some (.int (nI q)), l8, l9] [] h := by
  have h7 := ok.2.2.2.1
  have hp2 := n_p8l (i := n) hn
  intro m
  induction m with
  | zero => intros; omega
  | succ m ih =>
    intro q h u l8 l9 hm hq t
    refine e_il7 dX7_chance_72 ?_
    refine e_iconst (nI 1) dX7_chance_74 (by decide) ?_
    refine e_il2 dX7_chance_75 ?_
    refine e_ishlN dX7_chance_76 (by omega) (by omega) ?_
    refine e_ic_geN 197 dX7_chance_77 (by decide) (by omega) (by omega) (fun c_77 => ?_) (fun c_77 => ?_)
    · rw [show q = 2 ^ n by omega]
      exact K _ _ _ _ _ t
    · refine e_iconst (nI 1) dX7_chance_80 (by decide) ?_
      refine e_is8 dX7_chance_81 rfl ?_
      refine e_al0 dX7_chance_83 ?_
      refine e_get dX7_chance_84 fX7_25 t.1 rfl ?_
      refine e_iconst (nI 0) dX7_chance_87 (by decide) ?_
      refine e_al0 dX7_chance_88 ?_
      refine e_get dX7_chance_89 fX7_31 t.1 rfl ?_
      refine e_iconst (nI 0) dX7_chance_92 (by decide) ?_
      refine e_cs dX7_chance_93 sX7_147 (m_X7_copyT t) (by decide) rfl rfl (Nat.le_of_ble_eq_true rfl) jBud0 ?_
      rintro _ h1 ⟨rfl, t⟩
      refine e_iconst (nI 0) dX7_chance_96 (by decide) ?_
      refine e_is9 dX7_chance_97 rfl ?_
      refine lp_X7_chanceC ok hd2 hn hc (q := q) (by omega) (fun h l9 t => ?_) (n + 1) 0 _ (by omega) (by omega) t
      refine e_il5 dX7_chance_164 ?_
      refine e_al0 dX7_chance_166 ?_
      refine e_get dX7_chance_167 fX7_31 t.1 rfl ?_
      have o2 := ((s_ch_ok (q := q) n ok).2.2.2.2.2 p (by rw [s_ch_lo n (by omega) (by omega)]; exact hp)).2.2.1
      refine e_bipush (nI 13) dX7_chance_170 (by decide) ?_
      refine e_iconst (nI 4) dX7_chance_172 (by decide) ?_
      refine e_il1 dX7_chance_173 ?_
      refine e_imulN dX7_chance_174 ?_
      refine e_iaddN dX7_chance_175 ?_
      refine e_iconst (nI 1) dX7_chance_176 (by decide) ?_
      refine e_iaddN dX7_chance_177 ?_
      refine e_ialdN dX7_chance_178 t.2.2.1 (by omega) (by decide) ?_
      refine e_if_leN 187 dX7_chance_179 (by decide) (by omega) (fun c_179 => ?_) (fun c_179 => ?_)
      · refine e_iconst (nI 0) dX7_chance_187 (by decide) ?_
        refine e_iaddN dX7_chance_188 ?_
        refine e_is5 dX7_chance_189 rfl ?_
        refine e_inc7N dX7_chance_191 rfl ?_
        refine e_goto 72 dX7_chance_194 (by decide) ?_
        have r := ih (q + 1) _ _ (some (.int (nI (s_wy q c n)))) l9 (by omega) (by omega) t
        rw [s_ab, if_neg (by omega)] at r
        exact r
      · refine e_il8 dX7_chance_182 ?_
        refine e_goto 188 dX7_chance_184 (by decide) ?_
        refine e_iaddN dX7_chance_188 ?_
        refine e_is5 dX7_chance_189 rfl ?_
        refine e_inc7N dX7_chance_191 rfl ?_
        refine e_goto 72 dX7_chance_194 (by decide) ?_
        have r := ih (q + 1) _ _ (some (.int (nI (s_wy q c n)))) l9 (by omega) (by omega) t
        rw [s_ab, if_pos c_179] at r
        exact r
set_option maxRecDepth 100000 in
set_option maxHeartbeats 4000000 in
theorem lp_X7_chanceD {h : jH} {p n c v ab be G : Nat} {X : jX} (K : ∀ l9 : Option Value, jV cX7_chance RX7 4 X none 228 [some (.ref 218), some (.int (nI p)), some (.int (nI n)), some (.int (nI c)), some (.int (nI v)), some (.int (nI ab)), some (.int (nI be)), some (.int (nI G)), some (.int (nI 0)), l9] [] h) : ∀ (m x y : Nat) (l9 : Option Value), y < m → x < 2 ^ 31 → y < 2 ^ 31 → Nat.gcd x y = G → jV cX7_chance RX7 4 X none 205 [some (.ref 218), some (.int (nI p)), some (.int (nI n)), some (.int (nI c)), some (.int (nI v)), some (.int (nI ab)), some (.int (nI be)), some (.int (nI x)), some (.int (nI y)), l9] [] h := by
  intro m
  induction m with
  | zero => intros; omega
  | succ m ih =>
    intro x y l9 hm hx hy hG
    refine e_il8 dX7_chance_205 ?_
    refine e_if_eqN 228 dX7_chance_207 (by decide) (by omega) (fun c_207 => ?_) (fun c_207 => ?_)
    · rw [show x = G by rw [← hG, c_207, Nat.gcd_zero_right], c_207]
      exact K _
    · refine e_il7 dX7_chance_210 ?_
      refine e_il8 dX7_chance_212 ?_
      refine e_iremN dX7_chance_214 (by omega) (by omega) (by omega) ?_
      refine e_is9 dX7_chance_215 rfl ?_
      refine e_il8 dX7_chance_217 ?_
      refine e_is7 dX7_chance_219 rfl ?_
      refine e_il9 dX7_chance_221 ?_
      refine e_is8 dX7_chance_223 rfl ?_
      refine e_goto 205 dX7_chance_225 (by decide) ?_
      exact ih _ _ _ (by have := Nat.mod_lt x c_207; omega) (by omega) (by have := Nat.mod_lt x c_207; omega) (by rw [← hG, Nat.gcd_comm y (x % y), ← Nat.gcd_rec, Nat.gcd_comm])
set_option maxRecDepth 100000 in
set_option maxHeartbeats 4000000 in
theorem r_chance {h : jH} {S : jS} (c : RI h S) (g : SG S) {x n y v : Int32} : jM yX7_chance cX7_chance 10 (some .int) 4 none [.ref 218, .int x, .int n, .int y, .int v] h (rAns h (sp_chance x n y v S, S)) := by
  obtain ⟨⟨s, hO, s0, s1, s2, s8, s9⟩, c2, c3, hW, c5, c6, c7, c8⟩ := id c
  obtain ⟨g0, g1, g2, ⟨ok, gd, gh⟩, ⟨ga, gp⟩, gi, gt⟩ := id g
  obtain ⟨k0, k1, k2, k3, k4, k5⟩ := id ok
  obtain ⟨B, hB, hb⟩ := id c3
  obtain ⟨Pa, hP, hPa⟩ := id c5
  obtain ⟨Im, Kk, hI1, hI2, hI3, hI4⟩ := id c6
  obtain ⟨⟨x1, hx1⟩, ⟨x2, hx2⟩, ⟨x3, hx3⟩, ⟨x4, hx4⟩, ⟨x5, hx5⟩, x6, hx6⟩ := id c7
  obtain ⟨tf, ht1, ht2⟩ := id c8
  have t0 : rTr h h s S.2.2.1 x2 := ⟨hO, hW, hx2, ⟨x3, hx3⟩, ⟨x4, hx4⟩, jEq.rf⟩
  refine jM.ofF (by decide +kernel) rfl (Nat.le_of_ble_eq_true rfl) (fun X hX hI => ?_)
  show jV cX7_chance RX7 4 X none 0 [some (.ref 218), some (.int x), some (.int n), some (.int y), some (.int v), none, none, none, none, none] [] h
  refine e_al0 dX7_chance_0 ?_
  refine e_il1 dX7_chance_1 ?_
  refine e_cv dX7_chance_2 vX7_195 (m_X7_isPair hO hW (by omega)) (by decide) rfl rfl (Nat.le_of_ble_eq_true rfl) jBud0 rfl hO ?_
  rintro _ _ ⟨rfl, rfl⟩
  refine e_if_eqB 38 dX7_chance_5 (by decide) (fun c_5 => ?_) (fun c_5 => ?_)
  · refine e_ldc dX7_chance_38 kX7_73 ?_
    exact e_iret hX dX7_chance_40 (by rw [sp_chance, if_neg c_5]; exact rAns.same c rfl) (fun z => z)
  · refine e_il2 dX7_chance_8 ?_
    refine e_iconst (nI 0) dX7_chance_9 (by decide) ?_
    refine e_bipush (nI 8) dX7_chance_10 (by decide) ?_
    refine e_cs dX7_chance_12 sX7_65 (m_X7_inR (by decide) (by decide)) (by decide) rfl rfl (Nat.le_of_ble_eq_true rfl) jBud0 ?_
    rintro _ _ ⟨rfl, rfl⟩
    refine e_if_eqB 38 dX7_chance_15 (by decide) (fun c_15 => ?_) (fun c_15 => ?_)
    · refine e_ldc dX7_chance_38 kX7_73 ?_
      exact e_iret hX dX7_chance_40 (by rw [sp_chance, if_pos c_5, if_neg c_15]; exact rAns.same c rfl) (fun z => z)
    · refine e_il3 dX7_chance_18 ?_
      refine e_iconst (nI 0) dX7_chance_19 (by decide) ?_
      refine e_bipush (nI 10) dX7_chance_20 (by decide) ?_
      refine e_cs dX7_chance_22 sX7_65 (m_X7_inR (by decide) (by decide)) (by decide) rfl rfl (Nat.le_of_ble_eq_true rfl) jBud0 ?_
      rintro _ _ ⟨rfl, rfl⟩
      refine e_if_eqB 38 dX7_chance_25 (by decide) (fun c_25 => ?_) (fun c_25 => ?_)
      · refine e_ldc dX7_chance_38 kX7_73 ?_
        exact e_iret hX dX7_chance_40 (by rw [sp_chance, if_pos c_5, if_pos c_15, if_neg c_25]; exact rAns.same c rfl) (fun z => z)
      · refine e_il4 dX7_chance_28 ?_
        refine e_iconst (nI 0) dX7_chance_30 (by decide) ?_
        refine e_iconst (nI 1) dX7_chance_31 (by decide) ?_
        refine e_cs dX7_chance_32 sX7_65 (m_X7_inR (by decide) (by decide)) (by decide) rfl rfl (Nat.le_of_ble_eq_true rfl) jBud0 ?_
        rintro _ _ ⟨rfl, rfl⟩
        refine e_if_neB 41 dX7_chance_35 (by decide) (fun c_35 => ?_) (fun c_35 => ?_)
        · obtain ⟨a, ha, rfl⟩ := iN_of c_5 (by omega)
          have ea : (nI a).toNatClampNeg = a := nI_clamp (by omega)
          obtain ⟨n, ln, hn, rfl⟩ := iR_of c_15 (by decide)
          have en : (nI n).toNatClampNeg = n := nI_clamp (by omega)
          obtain ⟨d, ld, hd, rfl⟩ := iR_of c_25 (by decide)
          have ed : (nI d).toNatClampNeg = d := nI_clamp (by omega)
          obtain ⟨v, lv, hv, rfl⟩ := iR_of c_35 (by decide)
          have ev : (nI v).toNatClampNeg = v := nI_clamp (by omega)
          have ab := s_ab_le (w := S.2.2.1) (p := a) (n := n) (c := d) (2 ^ n)
          rw [s_sw_all hd hn] at ab
          have p10 := n_p10 hn
          have gp := Nat.gcd_pos_of_pos_right (s_ab S.2.2.1 a n d (2 ^ n)) p10.2
          have gl := Nat.gcd_le_right (s_ab S.2.2.1 a n d (2 ^ n)) p10.2
          refine e_iconst (nI 0) dX7_chance_41 (by decide) ?_
          refine e_is5 dX7_chance_42 rfl ?_
          refine e_iconst (nI 1) dX7_chance_44 (by decide) ?_
          refine e_is6 dX7_chance_45 rfl ?_
          refine e_iconst (nI 0) dX7_chance_47 (by decide) ?_
          refine e_is7 dX7_chance_48 rfl ?_
          refine lp_X7_chanceA hn (fun l7 => ?_) (n + 1) 0 (by omega) (by omega)
          refine e_iconst (nI 0) dX7_chance_69 (by decide) ?_
          refine e_is7 dX7_chance_70 rfl ?_
          refine lp_X7_chanceB ok (by omega) ha hn hd (fun h u l7 l8 l9 t => ?_) (2 ^ n + 1) 0 _ _ none none (Nat.lt_succ_of_le (Nat.sub_le _ _)) (Nat.zero_le _) t0
          refine e_il5 dX7_chance_197 ?_
          refine e_is7 dX7_chance_199 rfl ?_
          refine e_il6 dX7_chance_201 ?_
          refine e_is8 dX7_chance_203 rfl ?_
          refine lp_X7_chanceD (fun l9 => ?_) (10 ^ n + 1) _ _ _ (by omega) (by omega) (by omega) rfl
          refine e_il4 dX7_chance_228 ?_
          refine e_if_neN 238 dX7_chance_230 (by decide) (by omega) (fun c_230 => ?_) (fun c_230 => ?_)
          · refine e_il6 dX7_chance_238 ?_
            refine e_il7 dX7_chance_240 ?_
            refine e_idivN dX7_chance_242 (by omega) (by omega) (by omega) ?_
            exact e_iret hX dX7_chance_243 (by
              rw [sp_chance, if_pos c_5, if_pos c_15, if_pos c_25, if_pos c_35, ea, en, ed, ev]
              exact ⟨by rw [s_chA, if_neg (by omega)], c.tr t, t.hi⟩) (fun z => z)
          · refine e_il5 dX7_chance_233 ?_
            refine e_goto 240 dX7_chance_235 (by decide) ?_
            refine e_il7 dX7_chance_240 ?_
            refine e_idivN dX7_chance_242 (by omega) (by omega) (by omega) ?_
            exact e_iret hX dX7_chance_243 (by
              rw [sp_chance, if_pos c_5, if_pos c_15, if_pos c_25, if_pos c_35, ea, en, ed, ev]
              exact ⟨by rw [s_chA, if_pos c_230], c.tr t, t.hi⟩) (fun z => z)
        · refine e_ldc dX7_chance_38 kX7_73 ?_
          exact e_iret hX dX7_chance_40 (by rw [sp_chance, if_pos c_5, if_pos c_15, if_pos c_25, if_neg c_35]; exact rAns.same c rfl) (fun z => z)
set_option maxRecDepth 100000 in
set_option maxHeartbeats 4000000 in
theorem lp_X2_behindSummer {h0 : jH} {n sd : Nat} (hn : n < 1000) {T : hw} {X : jX} (hX : jRet X (some (.object "BellowsWords$House")) none (fun v h' => v = some (.ref 207) ∧ cTr h0 h' T)) : ∀ (m d x : Nat) (h : jH) (u : hw) (l7 : Option Value), n - d < m → d ≤ n → x < 2147483647 → cTr h0 h u → g_ok u → u 4 + (n - d) < 2 ^ 29 → s_ds (n - d) x u = T → jV cX2_behindSummer RX2 4 X none 15 [some (.ref 206), some (.ref 14), some (.int (nI n)), some (.int (nI sd)), some (.long (lN x)), none, some (.int (nI d)), l7] [] h := by
  intro m
  induction m with
  | zero => intros; omega
  | succ m ih =>
    intro d x h u l7 hm hd hx t oku hd2 hr
    have h7 := oku.2.2.2.1
    obtain ⟨f, k_, b_, p_, g_, z_, hC, hV⟩ := id t.2.1
    refine e_il6 dX2_behindSummer_15 ?_
    refine e_il2 dX2_behindSummer_17 ?_
    refine e_ic_geN 117 dX2_behindSummer_18 (by decide) (by omega) (by omega) (fun c_18 => ?_) (fun c_18 => ?_)
    · refine e_al0 dX2_behindSummer_117 ?_
      refine e_get dX2_behindSummer_118 fX2_12 t.1 rfl ?_
      exact e_aret hX dX2_behindSummer_121 (⟨rfl, by rw [← hr, show n - d = 0 by omega]; exact t⟩) (fun z => z)
    · refine e_ll4 dX2_behindSummer_21 ?_
      refine e_ldc2 dX2_behindSummer_23 kX2_95 ?_
      refine e_topL (show (16807 : Int64) = lN 16807 from rfl) ?_
      refine e_lmulN dX2_behindSummer_26 ?_
      refine e_ldc2 dX2_behindSummer_27 kX2_97 ?_
      refine e_topL (show (2147483647 : Int64) = lN 2147483647 from rfl) ?_
      refine e_lremN dX2_behindSummer_30 (by omega) (by omega) (by omega) ?_
      rw [show x * 16807 % 2147483647 = s_x x from rfl]
      have xl : s_x x < 2147483647 := Nat.mod_lt _ (by omega)
      refine e_ls4 dX2_behindSummer_31 rfl ?_
      refine e_al0 dX2_behindSummer_33 ?_
      refine e_get dX2_behindSummer_34 fX2_12 t.1 rfl ?_
      refine e_ll4 dX2_behindSummer_37 ?_
      refine e_ldc2 dX2_behindSummer_39 kX2_99 ?_
      refine e_topL (show (16 : Int64) = lN 16 from rfl) ?_
      refine e_lremN dX2_behindSummer_42 (by omega) (by omega) (by omega) ?_
      refine e_l2iN dX2_behindSummer_43 ?_
      refine e_put dX2_behindSummer_44 fX2_101 hC.1 (Nat.le_of_ble_eq_true rfl) (fun g => ⟨rfl, rfl⟩) ?_
      refine e_abs (fun h1 hh => ?_)
      replace t := t.wm hC hV hh
      clear hC hV hh
      obtain ⟨f, k_, b_, p_, g_, z_, hC, hV⟩ := id t.2.1
      have ok2 := oku.warm (v := s_x x % 16) (by omega)
      have e3 : va_up u 0 (s_x x % 16) 3 = u 3 := up_ne (by omega)
      refine e_ll4 dX2_behindSummer_47 ?_
      refine e_ldc2 dX2_behindSummer_49 kX2_104 ?_
      refine e_topL (show (3 : Int64) = lN 3 from rfl) ?_
      refine e_lremN dX2_behindSummer_52 (by omega) (by omega) (by omega) ?_
      refine e_lconst 0 dX2_behindSummer_53 (by decide) ?_
      refine e_lcmp dX2_behindSummer_54 ?_
      refine e_if_ne 104 dX2_behindSummer_55 (by decide) (fun c_55 => ?_) (fun c_55 => ?_)
      · rw [lc0 (by omega)] at c_55
        replace t := t.cg (show _ = s_dst (s_x x) u by rw [s_dst, if_neg (fun z => c_55 z.1)])
        refine e_al0 dX2_behindSummer_104 ?_
        refine e_get dX2_behindSummer_105 fX2_12 t.1 rfl ?_
        refine e_cv dX2_behindSummer_108 vX2_38 (m_passT t (s_dst_ok oku) (by rw [s_dst_lo (by omega) (by omega)]; omega)) (by decide) rfl rfl (Nat.le_of_ble_eq_true rfl) jBud0 rfl t.2.1.sh.choose_spec ?_
        rintro _ h2 ⟨rfl, t⟩
        refine e_inc6N dX2_behindSummer_111 rfl ?_
        refine e_goto 15 dX2_behindSummer_114 (by decide) ?_
        exact ih (d + 1) (s_x x) _ _ _ (by omega) (by omega) xl t (s_pass_ok (s_dst_ok oku)) (by rw [s_pass_4, s_dst_lo (by omega) (by omega)]; omega) (by rw [← hr, show n - d = (n - (d + 1)) + 1 by omega]; rfl)
      · rw [lc0 (by omega)] at c_55
        refine e_al0 dX2_behindSummer_58 ?_
        refine e_get dX2_behindSummer_59 fX2_12 t.1 rfl ?_
        refine e_get dX2_behindSummer_62 fX2_55 hC.1 rfl ?_
        rw [e3]
        refine e_if_leN 104 dX2_behindSummer_65 (by decide) (by omega) (fun c_65 => ?_) (fun c_65 => ?_)
        · replace t := t.cg (show _ = s_dst (s_x x) u by rw [s_dst, if_neg (fun z => by have := z.2; omega)])
          refine e_al0 dX2_behindSummer_104 ?_
          refine e_get dX2_behindSummer_105 fX2_12 t.1 rfl ?_
          refine e_cv dX2_behindSummer_108 vX2_38 (m_passT t (s_dst_ok oku) (by rw [s_dst_lo (by omega) (by omega)]; omega)) (by decide) rfl rfl (Nat.le_of_ble_eq_true rfl) jBud0 rfl t.2.1.sh.choose_spec ?_
          rintro _ h2 ⟨rfl, t⟩
          refine e_inc6N dX2_behindSummer_111 rfl ?_
          refine e_goto 15 dX2_behindSummer_114 (by decide) ?_
          exact ih (d + 1) (s_x x) _ _ _ (by omega) (by omega) xl t (s_pass_ok (s_dst_ok oku)) (by rw [s_pass_4, s_dst_lo (by omega) (by omega)]; omega) (by rw [← hr, show n - d = (n - (d + 1)) + 1 by omega]; rfl)
        · refine e_ll4 dX2_behindSummer_68 ?_
          refine e_al0 dX2_behindSummer_70 ?_
          refine e_get dX2_behindSummer_71 fX2_12 t.1 rfl ?_
          refine e_get dX2_behindSummer_74 fX2_55 hC.1 rfl ?_
          rw [e3]
          refine e_i2lN dX2_behindSummer_77 (by omega) ?_
          refine e_lremN dX2_behindSummer_78 (by omega) (by omega) (by omega) ?_
          refine e_l2iN dX2_behindSummer_79 ?_
          refine e_is7 dX2_behindSummer_80 rfl ?_
          refine e_al0 dX2_behindSummer_82 ?_
          refine e_get dX2_behindSummer_83 fX2_12 t.1 rfl ?_
          refine e_get dX2_behindSummer_86 fX2_106 hC.1 rfl ?_
          refine e_il7 dX2_behindSummer_89 ?_
          have eg := (hV.2 (s_x x % u 3) (by rw [e3]; exact Nat.mod_lt _ c_65)).2.2.2
          refine e_iconst (nI 1) dX2_behindSummer_91 (by decide) ?_
          refine e_al0 dX2_behindSummer_92 ?_
          refine e_get dX2_behindSummer_93 fX2_12 t.1 rfl ?_
          refine e_get dX2_behindSummer_96 fX2_106 hC.1 rfl ?_
          refine e_il7 dX2_behindSummer_99 ?_
          refine e_ialdN dX2_behindSummer_101 hC.2.2.2.2.2.1 (by have := Nat.mod_lt (s_x x) c_65; omega) (by decide) ?_
          refine e_isubN dX2_behindSummer_102 (by have := Nat.mod_lt (s_x x) c_65; have := (ok2.2.2.2.2.2 (s_x x % u 3) (by rw [e3]; omega)).2.2.2.2; rw [eg]; omega) ?_
          rw [eg]
          refine e_iastN dX2_behindSummer_103 hC.2.2.2.2.2.1 (by have := Nat.mod_lt (s_x x) c_65; omega) (by decide) ?_
          refine e_abs (fun h3 hh => ?_)
          replace t := t.pg hC hV ok2.2.2.1 hh
          clear hh
          replace t := t.cg (show _ = s_dst (s_x x) u by rw [s_dst, if_pos ⟨c_55, by omega⟩])
          refine e_al0 dX2_behindSummer_104 ?_
          refine e_get dX2_behindSummer_105 fX2_12 t.1 rfl ?_
          refine e_cv dX2_behindSummer_108 vX2_38 (m_passT t (s_dst_ok oku) (by rw [s_dst_lo (by omega) (by omega)]; omega)) (by decide) rfl rfl (Nat.le_of_ble_eq_true rfl) jBud0 rfl t.2.1.sh.choose_spec ?_
          rintro _ h2 ⟨rfl, t⟩
          refine e_inc6N dX2_behindSummer_111 rfl ?_
          refine e_goto 15 dX2_behindSummer_114 (by decide) ?_
          exact ih (d + 1) (s_x x) _ _ _ (by omega) (by omega) xl t (s_pass_ok (s_dst_ok oku)) (by rw [s_pass_4, s_dst_lo (by omega) (by omega)]; omega) (by rw [← hr, show n - d = (n - (d + 1)) + 1 by omega]; rfl)
set_option maxRecDepth 100000 in
set_option maxHeartbeats 4000000 in
theorem m_X2_behindSummer {h0 h : jH} {w : hw} (t0 : cT0 h0 h) (hN : HA h0 14 w) (ok : g_ok w) (hd2 : w 4 < 2 ^ 28) {n sd : Nat} (hn : n < 1000) (hs : sd < 1000000) : jM yX2_behindSummer cX2_behindSummer 8 (some (.object "BellowsWords$House")) 4 none [.ref 206, .ref 14, .int (nI n), .int (nI sd)] h (fun v h' => v = some (.ref 207) ∧ cTr h0 h' (s_ds n sd w)) := by
  have h8 := ok.2.2.1
  have h7 := ok.2.2.2.1
  have hf2s := t0.2.1.sh
  refine jM.ofF (by decide +kernel) rfl (Nat.le_of_ble_eq_true rfl) (fun X hX hI => ?_)
  show jV cX2_behindSummer RX2 4 X none 0 [some (.ref 206), some (.ref 14), some (.int (nI n)), some (.int (nI sd)), none, none, none, none] [] h
  refine e_al0 dX2_behindSummer_0 ?_
  refine e_get dX2_behindSummer_1 fX2_12 t0.1 rfl ?_
  refine e_al1 dX2_behindSummer_4 ?_
  refine e_cv dX2_behindSummer_5 vX2_25 (m_becomeT0 t0 hN h8 h7) (by decide) rfl rfl (Nat.le_of_ble_eq_true rfl) jBud0 rfl hf2s.choose_spec ?_
  rintro _ h1 ⟨rfl, t⟩
  refine e_il3 dX2_behindSummer_8 ?_
  refine e_i2lN dX2_behindSummer_9 (by omega) ?_
  refine e_ls4 dX2_behindSummer_10 rfl ?_
  refine e_iconst (nI 0) dX2_behindSummer_12 (by decide) ?_
  refine e_is6 dX2_behindSummer_13 rfl ?_
  exact lp_X2_behindSummer hn hX (n + 1) 0 sd _ _ none (by omega) (by omega) (by omega) t ok (by omega) rfl
set_option maxRecDepth 100000 in
set_option maxHeartbeats 4000000 in
theorem c_drawn {h : jH} {S : jS} (c : CI h S) (g : SG S) {n x v : Int32} : jM yX6_drawn cX6_drawn 5 (some .int) 5 none [.ref 0, .int n, .int x, .int v] h (cAns h (sp_drawn n x v S, S)) := by
  obtain ⟨c1, c2, c3, c4, c5, c6, c7, c8⟩ := id c
  obtain ⟨g0, g1, g2, ⟨ok, gd, gh⟩, ⟨ga, gp⟩, gi, gt⟩ := id g
  obtain ⟨k0, k1, k2, k3, k4, k5⟩ := id ok
  obtain ⟨f, k, b, p, gg, z, hC, hV⟩ := id c4
  obtain ⟨nx, rf, hnx, hac, -⟩ := id c5
  obtain ⟨⟨at_, ht⟩, hx6, B, hB, hb⟩ := id c3
  obtain ⟨⟨rfi, hi1, hi2⟩, hi3⟩ := id c6
  obtain ⟨hk1, fk_, hk2, hk3⟩ := id c8
  obtain ⟨hf1, hf2, hf3, hf4⟩ := id c7
  have t0 : cT0 h h := ⟨hf1, hf2, jEq.rf⟩
  refine jM.ofF (by decide +kernel) rfl (Nat.le_of_ble_eq_true rfl) (fun X hX hI => ?_)
  show jV cX6_drawn RX6 5 X none 0 [some (.ref 0), some (.int n), some (.int x), some (.int v), none] [] h
  refine e_al0 dX6_drawn_0 ?_
  refine e_get dX6_drawn_1 fX6_26 c1 rfl ?_
  refine e_cv dX6_drawn_4 vX6_141 (m_X3_stands hC (by omega)) (by decide) rfl rfl (Nat.le_of_ble_eq_true rfl) jBud0 rfl hC.1 ?_
  rintro _ _ ⟨rfl, rfl⟩
  refine e_if_neB 13 dX6_drawn_7 (by decide) (fun c_7 => ?_) (fun c_7 => ?_)
  · refine e_il1 dX6_drawn_13 ?_
    refine e_iconst (nI 0) dX6_drawn_14 (by decide) ?_
    refine e_bipush (nI 60) dX6_drawn_15 (by decide) ?_
    refine e_cs dX6_drawn_17 sX6_63 (m_X6_isWithinR (by decide) (by decide)) (by decide) rfl rfl (Nat.le_of_ble_eq_true rfl) jBud0 ?_
    rintro _ _ ⟨rfl, rfl⟩
    refine e_if_eqB 42 dX6_drawn_20 (by decide) (fun c_20 => ?_) (fun c_20 => ?_)
    · refine e_ldc dX6_drawn_42 kX6_67 ?_
      exact e_iret hX dX6_drawn_44 (by rw [sp_drawn, if_pos c_7, if_neg c_20]; exact cAns.same c rfl) (fun z => z)
    · refine e_il2 dX6_drawn_23 ?_
      refine e_iconst (nI 1) dX6_drawn_24 (by decide) ?_
      refine e_ldc dX6_drawn_25 kX6_245 ?_
      refine e_top (show (999999 : Int32) = nI 999999 from rfl) ?_
      refine e_cs dX6_drawn_27 sX6_63 (m_X6_isWithinR (by decide) (by decide)) (by decide) rfl rfl (Nat.le_of_ble_eq_true rfl) jBud0 ?_
      rintro _ _ ⟨rfl, rfl⟩
      refine e_if_eqB 42 dX6_drawn_30 (by decide) (fun c_30 => ?_) (fun c_30 => ?_)
      · refine e_ldc dX6_drawn_42 kX6_67 ?_
        exact e_iret hX dX6_drawn_44 (by rw [sp_drawn, if_pos c_7, if_pos c_20, if_neg c_30]; exact cAns.same c rfl) (fun z => z)
      · refine e_il3 dX6_drawn_33 ?_
        refine e_iconst (nI 0) dX6_drawn_34 (by decide) ?_
        refine e_iconst (nI 1) dX6_drawn_35 (by decide) ?_
        refine e_cs dX6_drawn_36 sX6_63 (m_X6_isWithinR (by decide) (by decide)) (by decide) rfl rfl (Nat.le_of_ble_eq_true rfl) jBud0 ?_
        rintro _ _ ⟨rfl, rfl⟩
        refine e_if_neB 45 dX6_drawn_39 (by decide) (fun c_39 => ?_) (fun c_39 => ?_)
        · obtain ⟨n, ln, hn, rfl⟩ := iR_of c_20 (by decide)
          have en : (nI n).toNatClampNeg = n := nI_clamp (by omega)
          obtain ⟨q, lq, hq, rfl⟩ := iR_of c_30 (by decide)
          have eq : (nI q).toNatClampNeg = q := nI_clamp (by omega)
          obtain ⟨v, lv, hv, rfl⟩ := iR_of c_39 (by decide)
          have ev : (nI v).toNatClampNeg = v := nI_clamp (by omega)
          refine e_al0 dX6_drawn_45 ?_
          refine e_get dX6_drawn_46 fX6_44 c1 rfl ?_
          refine e_al0 dX6_drawn_49 ?_
          refine e_get dX6_drawn_50 fX6_26 c1 rfl ?_
          refine e_il1 dX6_drawn_53 ?_
          refine e_il2 dX6_drawn_54 ?_
          refine e_cv dX6_drawn_55 vX6_246 (m_X2_behindSummer t0 c4 ok (by omega) (n := n) (sd := q) (by omega) (by omega)) (by decide) rfl rfl (Nat.le_of_ble_eq_true rfl) jBud0 rfl hf1 ?_
          rintro _ h1 ⟨rfl, t⟩
          obtain ⟨f3, k3_, b3, p3, g3, z3, hC3, hV3⟩ := id t.2.1
          refine e_as4 dX6_drawn_58 rfl ?_
          refine e_il3 dX6_drawn_60 ?_
          refine e_if_neN 72 dX6_drawn_61 (by decide) (by omega) (fun c_61 => ?_) (fun c_61 => ?_)
          · refine e_al4 dX6_drawn_72 ?_
            refine e_cv dX6_drawn_74 vX6_253 (m_X3_breathInAll hC3 hV3 (s_ds_ok n q ok)) (by decide) rfl rfl (Nat.le_of_ble_eq_true rfl) jBud0 rfl hC3.1 ?_
            rintro _ _ ⟨rfl, rfl⟩
            exact e_iret hX dX6_drawn_77 (by
              rw [sp_drawn, if_pos c_7, if_pos c_20, if_pos c_30, if_pos c_39, en, eq, ev]
              exact ⟨by rw [s_drwA, if_neg (by omega), s_ds_lo n q (by omega) (by omega)], c.tr t, t.lo⟩) (fun z => z)
          · refine e_al4 dX6_drawn_64 ?_
            refine e_cv dX6_drawn_66 vX6_250 (m_X3_fireInAll hC3 hV3 (s_ds_ok n q ok)) (by decide) rfl rfl (Nat.le_of_ble_eq_true rfl) jBud0 rfl hC3.1 ?_
            rintro _ _ ⟨rfl, rfl⟩
            refine e_goto 77 dX6_drawn_69 (by decide) ?_
            exact e_iret hX dX6_drawn_77 (by
              rw [sp_drawn, if_pos c_7, if_pos c_20, if_pos c_30, if_pos c_39, en, eq, ev]
              exact ⟨by rw [s_drwA, if_pos c_61, s_ds_lo n q (by omega) (by omega)], c.tr t, t.lo⟩) (fun z => z)
        · refine e_ldc dX6_drawn_42 kX6_67 ?_
          exact e_iret hX dX6_drawn_44 (by rw [sp_drawn, if_pos c_7, if_pos c_20, if_pos c_30, if_neg c_39]; exact cAns.same c rfl) (fun z => z)
  · refine e_ldc dX6_drawn_10 kX6_144 ?_
    exact e_iret hX dX6_drawn_12 (by rw [sp_drawn, if_neg c_7]; exact cAns.same c rfl) (fun z => z)
set_option maxRecDepth 100000 in
set_option maxHeartbeats 4000000 in
theorem lp_X7_drawn1 {h0 : jH} {s : Nat → Int32} {w : hw} (h7 : w 3 ≤ 7) {n sd v : Nat} (hn : n < 1000) {T : hw} {X : jX} (K : ∀ (h : jH) (x : Int64) (d : Int32) (l7 : Option Value), rTr h0 h s w T → jV cX7_drawn RX7 4 X none 163 [some (.ref 218), some (.int (nI n)), some (.int (nI sd)), some (.int (nI v)), some (.long x), none, some (.int d), l7] [] h) : ∀ (m d x : Nat) (h : jH) (u : hw) (l7 : Option Value), n - d < m → d ≤ n → x < 2147483647 → rTr h0 h s w u → g_ok u → u 3 = w 3 → u 4 + (n - d) < 2 ^ 29 → s_ds (n - d) x u = T → jV cX7_drawn RX7 4 X none 62 [some (.ref 218), some (.int (nI n)), some (.int (nI sd)), some (.int (nI v)), some (.long (lN x)), none, some (.int (nI d)), l7] [] h := by
  intro m
  induction m with
  | zero => intros; omega
  | succ m ih =>
    intro d x h u l7 hm hd hx t oku e3 hd2 hr
    refine e_il6 dX7_drawn_62 ?_
    refine e_il1 dX7_drawn_64 ?_
    refine e_ic_geN 163 dX7_drawn_65 (by decide) (by omega) (by omega) (fun c_65 => ?_) (fun c_65 => ?_)
    · exact K _ _ _ _ (by rw [← hr, show n - d = 0 by omega]; exact t)
    · refine e_ll4 dX7_drawn_68 ?_
      refine e_ldc2 dX7_drawn_70 kX7_232 ?_
      refine e_topL (show (16807 : Int64) = lN 16807 from rfl) ?_
      refine e_lmulN dX7_drawn_73 ?_
      refine e_ldc2 dX7_drawn_74 kX7_234 ?_
      refine e_topL (show (2147483647 : Int64) = lN 2147483647 from rfl) ?_
      refine e_lremN dX7_drawn_77 (by omega) (by omega) (by omega) ?_
      rw [show x * 16807 % 2147483647 = s_x x from rfl]
      have xl : s_x x < 2147483647 := Nat.mod_lt _ (by omega)
      refine e_ls4 dX7_drawn_78 rfl ?_
      refine e_al0 dX7_drawn_80 ?_
      refine e_get dX7_drawn_81 fX7_31 t.1 rfl ?_
      refine e_iconst (nI 0) dX7_drawn_84 (by decide) ?_
      refine e_ll4 dX7_drawn_85 ?_
      refine e_ldc2 dX7_drawn_87 kX7_236 ?_
      refine e_topL (show (16 : Int64) = lN 16 from rfl) ?_
      refine e_lremN dX7_drawn_90 (by omega) (by omega) (by omega) ?_
      refine e_l2iN dX7_drawn_91 ?_
      refine e_iastN dX7_drawn_92 t.2.2.1 (by omega) (by decide) ?_
      refine e_abs (fun h1 hh => ?_)
      replace t := t.hs hh
      clear hh
      have ok2 := oku.warm (v := s_x x % 16) (by omega)
      refine e_al0 dX7_drawn_93 ?_
      refine e_get dX7_drawn_94 fX7_25 t.1 rfl ?_
      refine e_iconst (nI 3) dX7_drawn_97 (by decide) ?_
      refine e_ialdN dX7_drawn_98 t.2.1 (by omega) (by decide) ?_
      refine e_if_leN 149 dX7_drawn_99 (by decide) (by omega) (fun c_99 => ?_) (fun c_99 => ?_)
      · replace t := t.cg (show _ = s_dst (s_x x) u by rw [s_dst, if_neg (fun z => by have := z.2; omega)])
        refine e_al0 dX7_drawn_149 ?_
        refine e_al0 dX7_drawn_150 ?_
        refine e_get dX7_drawn_151 fX7_31 t.1 rfl ?_
        refine e_cv dX7_drawn_154 vX7_187 (m_X7_passT t (s_dst_ok oku) (by rw [s_dst_lo (by omega) (by omega)]; omega)) (by decide) rfl rfl (Nat.le_of_ble_eq_true rfl) jBud0 rfl t.1 ?_
        rintro _ h2 ⟨rfl, t⟩
        refine e_inc6N dX7_drawn_157 rfl ?_
        refine e_goto 62 dX7_drawn_160 (by decide) ?_
        exact ih (d + 1) (s_x x) _ _ _ (by omega) (by omega) xl t (s_pass_ok (s_dst_ok oku)) (by rw [s_pass_3, s_dst_lo (by omega) (by omega)]; exact e3) (by rw [s_pass_4, s_dst_lo (by omega) (by omega)]; omega) (by rw [← hr, show n - d = (n - (d + 1)) + 1 by omega]; rfl)
      · refine e_ll4 dX7_drawn_102 ?_
        refine e_ldc2 dX7_drawn_104 kX7_238 ?_
        refine e_topL (show (3 : Int64) = lN 3 from rfl) ?_
        refine e_lremN dX7_drawn_107 (by omega) (by omega) (by omega) ?_
        refine e_lconst 0 dX7_drawn_108 (by decide) ?_
        refine e_lcmp dX7_drawn_109 ?_
        refine e_if_ne 149 dX7_drawn_110 (by decide) (fun c_110 => ?_) (fun c_110 => ?_)
        · rw [lc0 (by omega)] at c_110
          replace t := t.cg (show _ = s_dst (s_x x) u by rw [s_dst, if_neg (fun z => c_110 z.1)])
          refine e_al0 dX7_drawn_149 ?_
          refine e_al0 dX7_drawn_150 ?_
          refine e_get dX7_drawn_151 fX7_31 t.1 rfl ?_
          refine e_cv dX7_drawn_154 vX7_187 (m_X7_passT t (s_dst_ok oku) (by rw [s_dst_lo (by omega) (by omega)]; omega)) (by decide) rfl rfl (Nat.le_of_ble_eq_true rfl) jBud0 rfl t.1 ?_
          rintro _ h2 ⟨rfl, t⟩
          refine e_inc6N dX7_drawn_157 rfl ?_
          refine e_goto 62 dX7_drawn_160 (by decide) ?_
          exact ih (d + 1) (s_x x) _ _ _ (by omega) (by omega) xl t (s_pass_ok (s_dst_ok oku)) (by rw [s_pass_3, s_dst_lo (by omega) (by omega)]; exact e3) (by rw [s_pass_4, s_dst_lo (by omega) (by omega)]; omega) (by rw [← hr, show n - d = (n - (d + 1)) + 1 by omega]; rfl)
        · rw [lc0 (by omega)] at c_110
          refine e_bipush (nI 13) dX7_drawn_113 (by decide) ?_
          refine e_iconst (nI 4) dX7_drawn_115 (by decide) ?_
          refine e_ll4 dX7_drawn_116 ?_
          refine e_al0 dX7_drawn_118 ?_
          refine e_get dX7_drawn_119 fX7_25 t.1 rfl ?_
          refine e_iconst (nI 3) dX7_drawn_122 (by decide) ?_
          refine e_ialdN dX7_drawn_123 t.2.1 (by omega) (by decide) ?_
          refine e_i2lN dX7_drawn_124 (by omega) ?_
          refine e_lremN dX7_drawn_125 (by omega) (by omega) (by omega) ?_
          refine e_l2iN dX7_drawn_126 ?_
          refine e_imulN dX7_drawn_127 ?_
          refine e_iaddN dX7_drawn_128 ?_
          refine e_iconst (nI 3) dX7_drawn_129 (by decide) ?_
          refine e_iaddN dX7_drawn_130 ?_
          refine e_is7 dX7_drawn_131 rfl ?_
          refine e_al0 dX7_drawn_133 ?_
          refine e_get dX7_drawn_134 fX7_31 t.1 rfl ?_
          refine e_il7 dX7_drawn_137 ?_
          refine e_iconst (nI 1) dX7_drawn_139 (by decide) ?_
          refine e_al0 dX7_drawn_140 ?_
          refine e_get dX7_drawn_141 fX7_31 t.1 rfl ?_
          refine e_il7 dX7_drawn_144 ?_
          refine e_ialdN dX7_drawn_146 t.2.2.1 (by have := Nat.mod_lt (s_x x) c_99; omega) (by decide) ?_
          refine e_isubN dX7_drawn_147 (by have := Nat.mod_lt (s_x x) c_99; have := (ok2.2.2.2.2.2 (s_x x % w 3) (by rw [up_ne (by omega)]; omega)).2.2.2.2; omega) ?_
          refine e_iastN dX7_drawn_148 t.2.2.1 (by have := Nat.mod_lt (s_x x) c_99; omega) (by decide) ?_
          refine e_abs (fun h1 hh => ?_)
          replace t := t.hs hh
          clear hh
          replace t := t.cg (show _ = s_dst (s_x x) u by rw [s_dst, if_pos ⟨c_110, by omega⟩, ← e3])
          refine e_al0 dX7_drawn_149 ?_
          refine e_al0 dX7_drawn_150 ?_
          refine e_get dX7_drawn_151 fX7_31 t.1 rfl ?_
          refine e_cv dX7_drawn_154 vX7_187 (m_X7_passT t (s_dst_ok oku) (by rw [s_dst_lo (by omega) (by omega)]; omega)) (by decide) rfl rfl (Nat.le_of_ble_eq_true rfl) jBud0 rfl t.1 ?_
          rintro _ h2 ⟨rfl, t⟩
          refine e_inc6N dX7_drawn_157 rfl ?_
          refine e_goto 62 dX7_drawn_160 (by decide) ?_
          exact ih (d + 1) (s_x x) _ _ _ (by omega) (by omega) xl t (s_pass_ok (s_dst_ok oku)) (by rw [s_pass_3, s_dst_lo (by omega) (by omega)]; exact e3) (by rw [s_pass_4, s_dst_lo (by omega) (by omega)]; omega) (by rw [← hr, show n - d = (n - (d + 1)) + 1 by omega]; rfl)
set_option maxRecDepth 100000 in
set_option maxHeartbeats 4000000 in
theorem lp_X7_drawn2 {h0 h : jH} {s : Nat → Int32} {w T : hw} (h8 : w 2 ≤ 8) (t : rTr h0 h s w T) {n sd v : Nat} (hv : v ≤ 1) {x : Int64} {X : jX} (K : ∀ l7 : Int32, jV cX7_drawn RX7 4 X none 208 [some (.ref 218), some (.int (nI n)), some (.int (nI sd)), some (.int (nI v)), some (.long x), none, some (.int (nI (if v = 0 then s_fires T (w 2) else 0))), some (.int l7)] [] h) : ∀ (m i : Nat), w 2 - i < m → i ≤ w 2 → jV cX7_drawn RX7 4 X none 169 [some (.ref 218), some (.int (nI n)), some (.int (nI sd)), some (.int (nI v)), some (.long x), none, some (.int (nI (if v = 0 then s_fires T i else 0))), some (.int (nI i))] [] h := by
  intro m
  induction m with
  | zero => intros; omega
  | succ m ih =>
    intro i hm hi
    refine e_il7 dX7_drawn_169 ?_
    refine e_al0 dX7_drawn_171 ?_
    refine e_get dX7_drawn_172 fX7_25 t.1 rfl ?_
    refine e_iconst (nI 2) dX7_drawn_175 (by decide) ?_
    refine e_ialdN dX7_drawn_176 t.2.1 (by omega) (by decide) ?_
    refine e_ic_geN 208 dX7_drawn_177 (by decide) (by omega) (by omega) (fun c_177 => ?_) (fun c_177 => ?_)
    · rw [show i = w 2 by omega]
      exact K _
    · refine e_il6 dX7_drawn_180 ?_
      refine e_il3 dX7_drawn_182 ?_
      refine e_if_neN 198 dX7_drawn_183 (by decide) (by omega) (fun c_183 => ?_) (fun c_183 => ?_)
      · refine e_iconst (nI 0) dX7_drawn_198 (by decide) ?_
        refine e_iaddN dX7_drawn_199 ?_
        refine e_is6 dX7_drawn_200 rfl ?_
        refine e_inc7N dX7_drawn_202 rfl ?_
        refine e_goto 169 dX7_drawn_205 (by decide) ?_
        have r := ih (i + 1) (by omega) (by omega)
        rw [if_neg (show ¬ v = 0 by omega)] at r
        rw [if_neg (show ¬ v = 0 by omega)]
        exact r
      · refine e_al0 dX7_drawn_186 ?_
        refine e_get dX7_drawn_187 fX7_31 t.1 rfl ?_
        refine e_iconst (nI 5) dX7_drawn_190 (by decide) ?_
        refine e_il7 dX7_drawn_191 ?_
        refine e_iaddN dX7_drawn_193 ?_
        refine e_ialdN dX7_drawn_194 t.2.2.1 (by omega) (by decide) ?_
        refine e_goto 199 dX7_drawn_195 (by decide) ?_
        refine e_iaddN dX7_drawn_199 ?_
        refine e_is6 dX7_drawn_200 rfl ?_
        refine e_inc7N dX7_drawn_202 rfl ?_
        refine e_goto 169 dX7_drawn_205 (by decide) ?_
        have r := ih (i + 1) (by omega) (by omega)
        rw [if_pos c_183, s_fires] at r
        rw [if_pos c_183]
        exact r
set_option maxRecDepth 100000 in
set_option maxHeartbeats 4000000 in
theorem lp_X7_drawn3 {h0 h : jH} {s : Nat → Int32} {w T : hw} (h7 : w 3 ≤ 7) (t : rTr h0 h s w T) {n sd v a : Nat} (hv : v ≤ 1) {x : Int64} {X : jX} {post : Option Value → jH → Prop} (hX : jRet X (some .int) none post) (hp : post (some (.int (nI (a + (if v = 1 then s_breaths T (w 3) else 0))))) h) : ∀ (m i : Nat), w 3 - i < m → i ≤ w 3 → jV cX7_drawn RX7 4 X none 211 [some (.ref 218), some (.int (nI n)), some (.int (nI sd)), some (.int (nI v)), some (.long x), none, some (.int (nI (a + (if v = 1 then s_breaths T i else 0)))), some (.int (nI i))] [] h := by
  intro m
  induction m with
  | zero => intros; omega
  | succ m ih =>
    intro i hm hi
    refine e_il7 dX7_drawn_211 ?_
    refine e_al0 dX7_drawn_213 ?_
    refine e_get dX7_drawn_214 fX7_25 t.1 rfl ?_
    refine e_iconst (nI 3) dX7_drawn_217 (by decide) ?_
    refine e_ialdN dX7_drawn_218 t.2.1 (by omega) (by decide) ?_
    refine e_ic_geN 256 dX7_drawn_219 (by decide) (by omega) (by omega) (fun c_219 => ?_) (fun c_219 => ?_)
    · refine e_il6 dX7_drawn_256 ?_
      exact e_iret hX dX7_drawn_258 (by rw [show w 3 = i by omega] at hp; exact hp) (fun z => z)
    · refine e_il6 dX7_drawn_222 ?_
      refine e_il3 dX7_drawn_224 ?_
      refine e_iconst (nI 1) dX7_drawn_225 (by decide) ?_
      refine e_ic_neN 246 dX7_drawn_226 (by decide) (by omega) (by omega) (fun c_226 => ?_) (fun c_226 => ?_)
      · refine e_iconst (nI 0) dX7_drawn_246 (by decide) ?_
        refine e_iaddN dX7_drawn_247 ?_
        refine e_is6 dX7_drawn_248 rfl ?_
        refine e_inc7N dX7_drawn_250 rfl ?_
        refine e_goto 211 dX7_drawn_253 (by decide) ?_
        have r := ih (i + 1) (by omega) (by omega)
        rw [if_neg c_226] at r
        rw [if_neg c_226]
        exact r
      · refine e_al0 dX7_drawn_229 ?_
        refine e_get dX7_drawn_230 fX7_31 t.1 rfl ?_
        refine e_bipush (nI 13) dX7_drawn_233 (by decide) ?_
        refine e_iconst (nI 4) dX7_drawn_235 (by decide) ?_
        refine e_il7 dX7_drawn_236 ?_
        refine e_imulN dX7_drawn_238 ?_
        refine e_iaddN dX7_drawn_239 ?_
        refine e_iconst (nI 1) dX7_drawn_240 (by decide) ?_
        refine e_iaddN dX7_drawn_241 ?_
        refine e_ialdN dX7_drawn_242 t.2.2.1 (by omega) (by decide) ?_
        refine e_goto 247 dX7_drawn_243 (by decide) ?_
        refine e_iaddN dX7_drawn_247 ?_
        refine e_is6 dX7_drawn_248 rfl ?_
        refine e_inc7N dX7_drawn_250 rfl ?_
        refine e_goto 211 dX7_drawn_253 (by decide) ?_
        have r := ih (i + 1) (by omega) (by omega)
        rw [if_pos c_226, s_breaths, ← Nat.add_assoc] at r
        rw [if_pos c_226]
        exact r
theorem s_drw_sum {w T : hw} {v : Nat} (hv : v ≤ 1) : nI ((if v = 0 then s_fires T (w 2) else 0) + (if v = 1 then s_breaths T (w 3) else 0)) = if v = 0 then nI (s_fires T (w 2)) else nI (s_breaths T (w 3)) := by
  by_cases c : v = 0
  · rw [if_pos c, if_neg (by omega), if_pos c, Nat.add_zero]
  · rw [if_neg c, if_pos (by omega), if_neg c, Nat.zero_add]
set_option maxRecDepth 100000 in
set_option maxHeartbeats 4000000 in
theorem r_drawn {h : jH} {S : jS} (c : RI h S) (g : SG S) {n x v : Int32} : jM yX7_drawn cX7_drawn 8 (some .int) 4 none [.ref 218, .int n, .int x, .int v] h (rAns h (sp_drawn n x v S, S)) := by
  obtain ⟨⟨s, hO, s0, s1, s2, s8, s9⟩, c2, c3, hW, c5, c6, c7, c8⟩ := id c
  obtain ⟨g0, g1, g2, ⟨ok, gd, gh⟩, ⟨ga, gp⟩, gi, gt⟩ := id g
  obtain ⟨k0, k1, k2, k3, k4, k5⟩ := id ok
  obtain ⟨B, hB, hb⟩ := id c3
  obtain ⟨Pa, hP, hPa⟩ := id c5
  obtain ⟨Im, Kk, hI1, hI2, hI3, hI4⟩ := id c6
  obtain ⟨⟨x1, hx1⟩, ⟨x2, hx2⟩, ⟨x3, hx3⟩, ⟨x4, hx4⟩, ⟨x5, hx5⟩, x6, hx6⟩ := id c7
  obtain ⟨tf, ht1, ht2⟩ := id c8
  have t0 : rTr h h s S.2.2.1 x2 := ⟨hO, hW, hx2, ⟨x3, hx3⟩, ⟨x4, hx4⟩, jEq.rf⟩
  refine jM.ofF (by decide +kernel) rfl (Nat.le_of_ble_eq_true rfl) (fun X hX hI => ?_)
  show jV cX7_drawn RX7 4 X none 0 [some (.ref 218), some (.int n), some (.int x), some (.int v), none, none, none, none] [] h
  refine e_al0 dX7_drawn_0 ?_
  refine e_cv dX7_drawn_1 vX7_180 (m_X7_isHouse hO hW (by omega)) (by decide) rfl rfl (Nat.le_of_ble_eq_true rfl) jBud0 rfl hO ?_
  rintro _ _ ⟨rfl, rfl⟩
  refine e_if_neB 10 dX7_drawn_4 (by decide) (fun c_4 => ?_) (fun c_4 => ?_)
  · refine e_il1 dX7_drawn_10 ?_
    refine e_iconst (nI 0) dX7_drawn_11 (by decide) ?_
    refine e_bipush (nI 60) dX7_drawn_12 (by decide) ?_
    refine e_cs dX7_drawn_14 sX7_65 (m_X7_inR (by decide) (by decide)) (by decide) rfl rfl (Nat.le_of_ble_eq_true rfl) jBud0 ?_
    rintro _ _ ⟨rfl, rfl⟩
    refine e_if_eqB 39 dX7_drawn_17 (by decide) (fun c_17 => ?_) (fun c_17 => ?_)
    · refine e_ldc dX7_drawn_39 kX7_73 ?_
      exact e_iret hX dX7_drawn_41 (by rw [sp_drawn, if_pos (gh.mpr c_4), if_neg c_17]; exact rAns.same c rfl) (fun z => z)
    · refine e_il2 dX7_drawn_20 ?_
      refine e_iconst (nI 1) dX7_drawn_21 (by decide) ?_
      refine e_ldc dX7_drawn_22 kX7_231 ?_
      refine e_top (show (999999 : Int32) = nI 999999 from rfl) ?_
      refine e_cs dX7_drawn_24 sX7_65 (m_X7_inR (by decide) (by decide)) (by decide) rfl rfl (Nat.le_of_ble_eq_true rfl) jBud0 ?_
      rintro _ _ ⟨rfl, rfl⟩
      refine e_if_eqB 39 dX7_drawn_27 (by decide) (fun c_27 => ?_) (fun c_27 => ?_)
      · refine e_ldc dX7_drawn_39 kX7_73 ?_
        exact e_iret hX dX7_drawn_41 (by rw [sp_drawn, if_pos (gh.mpr c_4), if_pos c_17, if_neg c_27]; exact rAns.same c rfl) (fun z => z)
      · refine e_il3 dX7_drawn_30 ?_
        refine e_iconst (nI 0) dX7_drawn_31 (by decide) ?_
        refine e_iconst (nI 1) dX7_drawn_32 (by decide) ?_
        refine e_cs dX7_drawn_33 sX7_65 (m_X7_inR (by decide) (by decide)) (by decide) rfl rfl (Nat.le_of_ble_eq_true rfl) jBud0 ?_
        rintro _ _ ⟨rfl, rfl⟩
        refine e_if_neB 42 dX7_drawn_36 (by decide) (fun c_36 => ?_) (fun c_36 => ?_)
        · obtain ⟨n, ln, hn, rfl⟩ := iR_of c_17 (by decide)
          have en : (nI n).toNatClampNeg = n := nI_clamp (by omega)
          obtain ⟨q, lq, hq, rfl⟩ := iR_of c_27 (by decide)
          have eq : (nI q).toNatClampNeg = q := nI_clamp (by omega)
          obtain ⟨v, lv, hv, rfl⟩ := iR_of c_36 (by decide)
          have ev : (nI v).toNatClampNeg = v := nI_clamp (by omega)
          refine e_al0 dX7_drawn_42 ?_
          refine e_get dX7_drawn_43 fX7_25 hO rfl ?_
          refine e_iconst (nI 0) dX7_drawn_46 (by decide) ?_
          refine e_al0 dX7_drawn_47 ?_
          refine e_get dX7_drawn_48 fX7_31 hO rfl ?_
          refine e_iconst (nI 0) dX7_drawn_51 (by decide) ?_
          refine e_cs dX7_drawn_52 sX7_147 (m_X7_copyT t0) (by decide) rfl rfl (Nat.le_of_ble_eq_true rfl) jBud0 ?_
          rintro _ h1 ⟨rfl, t⟩
          refine e_il2 dX7_drawn_55 ?_
          refine e_i2lN dX7_drawn_56 (by omega) ?_
          refine e_ls4 dX7_drawn_57 rfl ?_
          refine e_iconst (nI 0) dX7_drawn_59 (by decide) ?_
          refine e_is6 dX7_drawn_60 rfl ?_
          refine lp_X7_drawn1 (T := s_ds n q S.2.2.1) k3 (by omega) (fun h xx d l7 t => ?_) (n + 1) 0 q _ _ none (by omega) (by omega) (by omega) t ok rfl (by omega) rfl
          refine e_iconst (nI 0) dX7_drawn_163 (by decide) ?_
          refine e_is6 dX7_drawn_164 rfl ?_
          refine e_iconst (nI 0) dX7_drawn_166 (by decide) ?_
          refine e_is7 dX7_drawn_167 rfl ?_
          have r := lp_X7_drawn2 (n := n) (sd := q) (x := xx) k2 t hv (X := X) (fun l7 => ?_) (S.2.2.1 2 + 1) 0 (by omega) (by omega)
          · rw [show (if v = 0 then s_fires (s_ds n q S.2.2.1) 0 else 0) = 0 by split <;> rfl] at r
            exact r
          · skip
            refine e_iconst (nI 0) dX7_drawn_208 (by decide) ?_
            refine e_is7 dX7_drawn_209 rfl ?_
            have r := lp_X7_drawn3 (n := n) (sd := q) (x := xx) (a := if v = 0 then s_fires (s_ds n q S.2.2.1) (S.2.2.1 2) else 0) k3 t hv hX ⟨by rw [s_drw_sum hv, sp_drawn, if_pos (gh.mpr c_4), if_pos c_17, if_pos c_27, if_pos c_36, en, eq, ev, s_drwA], c.tr t, t.hi⟩ (S.2.2.1 3 + 1) 0 (by omega) (by omega)
            rw [show (if v = 1 then s_breaths (s_ds n q S.2.2.1) 0 else 0) = 0 by split <;> rfl, Nat.add_zero] at r
            exact r
        · refine e_ldc dX7_drawn_39 kX7_73 ?_
          exact e_iret hX dX7_drawn_41 (by rw [sp_drawn, if_pos (gh.mpr c_4), if_pos c_17, if_pos c_27, if_neg c_36]; exact rAns.same c rfl) (fun z => z)
  · refine e_ldc dX7_drawn_7 kX7_183 ?_
    exact e_iret hX dX7_drawn_9 (by rw [sp_drawn, if_neg (fun q => c_4 (gh.mp q))]; exact rAns.same c rfl) (fun z => z)
