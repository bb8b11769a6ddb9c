set_option maxRecDepth 100000 in
set_option maxHeartbeats 4000000 in
theorem lp_X2_passWaiting {h0 : jH} {a i b j n : Nat} (ha : a < 7) (hb : b < 7) (hi : i < 1000) (hj : j < 1000) (hn : n < 1000) {T : hw} {X : jX} (hX : jRet X (none) none (fun v h' => v = none ∧ cTr h0 h' T)) : ∀ (m d : Nat) (h : jH) (u : hw), n - d < m → d ≤ n → cTr h0 h u → g_ok u → s_wi a i b j d u → u 4 + (n - d) < 2 ^ 29 → s_wl a i b j (n - d) d u = T → jV cX2_passWaiting RX2 4 X none 23 [some (.ref 206), some (.int (nI a)), some (.int (nI i)), some (.int (nI b)), some (.int (nI j)), some (.int (nI n)), some (.int (nI d))] [] h := by
  intro m
  induction m with
  | zero => intros; omega
  | succ m ih =>
    intro d h u hm hd t ok I hd2 hr
    obtain ⟨f, k_, b_, p_, g_, z_, hC, hV⟩ := id t.2.1
    refine e_il6 dX2_passWaiting_23 ?_
    refine e_il5 dX2_passWaiting_25 ?_
    refine e_ic_geN 76 dX2_passWaiting_27 (by decide) (by omega) (by omega) (fun c_27 => ?_) (fun c_27 => ?_)
    · exact e_ret hX dX2_passWaiting_76 (⟨rfl, by rw [← hr, show n - d = 0 by omega]; exact t⟩) (fun z => z)
    · have ok0 := ok
      refine e_il6 dX2_passWaiting_30 ?_
      refine e_il2 dX2_passWaiting_32 ?_
      refine e_ic_neN 46 dX2_passWaiting_33 (by decide) (by omega) (by omega) (fun c_33 => ?_) (fun c_33 => ?_)
      · refine e_il6 dX2_passWaiting_46 ?_
        refine e_il4 dX2_passWaiting_48 ?_
        refine e_ic_neN 63 dX2_passWaiting_50 (by decide) (by omega) (by omega) (fun c_50 => ?_) (fun c_50 => ?_)
        · first | replace t := t.cg (s_wd_ij I c_33 c_50) | replace t := t.cg (s_wd_i I c_33 c_50) | replace t := t.cg (s_wd_j I c_33 c_50) | replace t := t.cg (s_wd_n I c_33 c_50)
          clear hC hV
          obtain ⟨f, k_, b_, p_, g_, z_, hC, hV⟩ := id t.2.1
          refine e_al0 dX2_passWaiting_63 ?_
          refine e_get dX2_passWaiting_64 fX2_12 t.1 rfl ?_
          refine e_cv dX2_passWaiting_67 vX2_38 (m_passT t (s_wd_ok ok0) (by rw [s_wd_4]; omega)) (by decide) rfl rfl (Nat.le_of_ble_eq_true rfl) jBud0 rfl hC.1 ?_
          rintro _ h2 ⟨rfl, t1⟩
          refine e_inc6N dX2_passWaiting_70 rfl ?_
          refine e_goto 23 dX2_passWaiting_73 (by decide) ?_
          exact ih (d + 1) _ _ (by omega) (by omega) t1 (s_pass_ok (s_wd_ok ok0)) (s_wi_s I ok0.2.2.1) (by rw [s_pass_4, s_wd_4]; omega) (by rw [← hr, show n - d = (n - (d + 1)) + 1 by omega]; rfl)
        · refine e_al0 dX2_passWaiting_53 ?_
          refine e_get dX2_passWaiting_54 fX2_12 t.1 rfl ?_
          refine e_get dX2_passWaiting_57 fX2_106 hC.1 rfl ?_
          refine e_il3 dX2_passWaiting_60 ?_
          refine e_iconst (nI 0) dX2_passWaiting_61 (by decide) ?_
          refine e_iastN dX2_passWaiting_62 hC.2.2.2.2.2.1 (by omega) (by decide) ?_
          refine e_abs (fun h1 hh => ?_)
          replace t := t.pg hC hV ok.2.2.1 hh
          replace ok := ok.peg (i := b) (v := 0) (by omega)
          clear hC hV hh
          obtain ⟨f, k_, b_, p_, g_, z_, hC, hV⟩ := id t.2.1
          first | replace t := t.cg (s_wd_ij I c_33 c_50) | replace t := t.cg (s_wd_i I c_33 c_50) | replace t := t.cg (s_wd_j I c_33 c_50) | replace t := t.cg (s_wd_n I c_33 c_50)
          clear hC hV
          obtain ⟨f, k_, b_, p_, g_, z_, hC, hV⟩ := id t.2.1
          refine e_al0 dX2_passWaiting_63 ?_
          refine e_get dX2_passWaiting_64 fX2_12 t.1 rfl ?_
          refine e_cv dX2_passWaiting_67 vX2_38 (m_passT t (s_wd_ok ok0) (by rw [s_wd_4]; omega)) (by decide) rfl rfl (Nat.le_of_ble_eq_true rfl) jBud0 rfl hC.1 ?_
          rintro _ h2 ⟨rfl, t1⟩
          refine e_inc6N dX2_passWaiting_70 rfl ?_
          refine e_goto 23 dX2_passWaiting_73 (by decide) ?_
          exact ih (d + 1) _ _ (by omega) (by omega) t1 (s_pass_ok (s_wd_ok ok0)) (s_wi_s I ok0.2.2.1) (by rw [s_pass_4, s_wd_4]; omega) (by rw [← hr, show n - d = (n - (d + 1)) + 1 by omega]; rfl)
      · refine e_al0 dX2_passWaiting_36 ?_
        refine e_get dX2_passWaiting_37 fX2_12 t.1 rfl ?_
        refine e_get dX2_passWaiting_40 fX2_106 hC.1 rfl ?_
        refine e_il1 dX2_passWaiting_43 ?_
        refine e_iconst (nI 0) dX2_passWaiting_44 (by decide) ?_
        refine e_iastN dX2_passWaiting_45 hC.2.2.2.2.2.1 (by omega) (by decide) ?_
        refine e_abs (fun h1 hh => ?_)
        replace t := t.pg hC hV ok.2.2.1 hh
        replace ok := ok.peg (i := a) (v := 0) (by omega)
        clear hC hV hh
        obtain ⟨f, k_, b_, p_, g_, z_, hC, hV⟩ := id t.2.1
        refine e_il6 dX2_passWaiting_46 ?_
        refine e_il4 dX2_passWaiting_48 ?_
        refine e_ic_neN 63 dX2_passWaiting_50 (by decide) (by omega) (by omega) (fun c_50 => ?_) (fun c_50 => ?_)
        · first | replace t := t.cg (s_wd_ij I c_33 c_50) | replace t := t.cg (s_wd_i I c_33 c_50) | replace t := t.cg (s_wd_j I c_33 c_50) | replace t := t.cg (s_wd_n I c_33 c_50)
          clear hC hV
          obtain ⟨f, k_, b_, p_, g_, z_, hC, hV⟩ := id t.2.1
          refine e_al0 dX2_passWaiting_63 ?_
          refine e_get dX2_passWaiting_64 fX2_12 t.1 rfl ?_
          refine e_cv dX2_passWaiting_67 vX2_38 (m_passT t (s_wd_ok ok0) (by rw [s_wd_4]; omega)) (by decide) rfl rfl (Nat.le_of_ble_eq_true rfl) jBud0 rfl hC.1 ?_
          rintro _ h2 ⟨rfl, t1⟩
          refine e_inc6N dX2_passWaiting_70 rfl ?_
          refine e_goto 23 dX2_passWaiting_73 (by decide) ?_
          exact ih (d + 1) _ _ (by omega) (by omega) t1 (s_pass_ok (s_wd_ok ok0)) (s_wi_s I ok0.2.2.1) (by rw [s_pass_4, s_wd_4]; omega) (by rw [← hr, show n - d = (n - (d + 1)) + 1 by omega]; rfl)
        · refine e_al0 dX2_passWaiting_53 ?_
          refine e_get dX2_passWaiting_54 fX2_12 t.1 rfl ?_
          refine e_get dX2_passWaiting_57 fX2_106 hC.1 rfl ?_
          refine e_il3 dX2_passWaiting_60 ?_
          refine e_iconst (nI 0) dX2_passWaiting_61 (by decide) ?_
          refine e_iastN dX2_passWaiting_62 hC.2.2.2.2.2.1 (by omega) (by decide) ?_
          refine e_abs (fun h1 hh => ?_)
          replace t := t.pg hC hV ok.2.2.1 hh
          replace ok := ok.peg (i := b) (v := 0) (by omega)
          clear hC hV hh
          obtain ⟨f, k_, b_, p_, g_, z_, hC, hV⟩ := id t.2.1
          first | replace t := t.cg (s_wd_ij I c_33 c_50) | replace t := t.cg (s_wd_i I c_33 c_50) | replace t := t.cg (s_wd_j I c_33 c_50) | replace t := t.cg (s_wd_n I c_33 c_50)
          clear hC hV
          obtain ⟨f, k_, b_, p_, g_, z_, hC, hV⟩ := id t.2.1
          refine e_al0 dX2_passWaiting_63 ?_
          refine e_get dX2_passWaiting_64 fX2_12 t.1 rfl ?_
          refine e_cv dX2_passWaiting_67 vX2_38 (m_passT t (s_wd_ok ok0) (by rw [s_wd_4]; omega)) (by decide) rfl rfl (Nat.le_of_ble_eq_true rfl) jBud0 rfl hC.1 ?_
          rintro _ h2 ⟨rfl, t1⟩
          refine e_inc6N dX2_passWaiting_70 rfl ?_
          refine e_goto 23 dX2_passWaiting_73 (by decide) ?_
          exact ih (d + 1) _ _ (by omega) (by omega) t1 (s_pass_ok (s_wd_ok ok0)) (s_wi_s I ok0.2.2.1) (by rw [s_pass_4, s_wd_4]; omega) (by rw [← hr, show n - d = (n - (d + 1)) + 1 by omega]; rfl)
set_option maxRecDepth 100000 in
set_option maxHeartbeats 4000000 in
theorem m_X2_passWaiting {h0 h : jH} {u : hw} {a i b j n : Nat} (ha : a < 7) (hb : b < 7) (hi : i < 1000) (hj : j < 1000) (hn : n < 1000) (hab : a = b → i = j) (t : cTr h0 h u) (ok : g_ok u) (hd2 : u 4 < 2 ^ 28) : jM yX2_passWaiting cX2_passWaiting 7 (none : Option Jvm.ClassFile.FieldType) 4 none [.ref 206, .int (nI a), .int (nI i), .int (nI b), .int (nI j), .int (nI n)] h (fun v h' => v = none ∧ cTr h0 h' (s_wt a i b j n u)) := by
  obtain ⟨f, k_, b_, p_, g_, z_, hC, hV⟩ := id t.2.1
  refine jM.ofF (by decide +kernel) rfl (Nat.le_of_ble_eq_true rfl) (fun X hX hI => ?_)
  show jV cX2_passWaiting RX2 4 X none 0 [some (.ref 206), some (.int (nI a)), some (.int (nI i)), some (.int (nI b)), some (.int (nI j)), some (.int (nI n)), none] [] h
  refine e_al0 dX2_passWaiting_0 ?_
  refine e_get dX2_passWaiting_1 fX2_12 t.1 rfl ?_
  refine e_get dX2_passWaiting_4 fX2_106 hC.1 rfl ?_
  refine e_il1 dX2_passWaiting_7 ?_
  refine e_iconst (nI 1) dX2_passWaiting_8 (by decide) ?_
  refine e_iastN dX2_passWaiting_9 hC.2.2.2.2.2.1 (by omega) (by decide) ?_
  refine e_abs (fun h1 hh => ?_)
  replace t := t.pg hC hV ok.2.2.1 hh
  replace ok := ok.peg (i := a) (v := 1) (by omega)
  clear hC hV hh
  obtain ⟨f, k_, b_, p_, g_, z_, hC, hV⟩ := id t.2.1
  refine e_al0 dX2_passWaiting_10 ?_
  refine e_get dX2_passWaiting_11 fX2_12 t.1 rfl ?_
  refine e_get dX2_passWaiting_14 fX2_106 hC.1 rfl ?_
  refine e_il3 dX2_passWaiting_17 ?_
  refine e_iconst (nI 1) dX2_passWaiting_18 (by decide) ?_
  refine e_iastN dX2_passWaiting_19 hC.2.2.2.2.2.1 (by omega) (by decide) ?_
  refine e_abs (fun h1 hh => ?_)
  replace t := t.pg hC hV ok.2.2.1 hh
  replace ok := ok.peg (i := b) (v := 1) (by omega)
  clear hC hV hh
  obtain ⟨f, k_, b_, p_, g_, z_, hC, hV⟩ := id t.2.1
  refine e_iconst (nI 0) dX2_passWaiting_20 (by decide) ?_
  refine e_is6 dX2_passWaiting_21 rfl ?_
  exact lp_X2_passWaiting ha hb hi hj hn hX (n + 1) 0 _ _ (by omega) (by omega) t ok (s_wi_0 hab) (by rw [show va_up (va_up u (13 + 4 * a + 3) 1) (13 + 4 * b + 3) 1 4 = u 4 from s_w1_4]; omega) rfl
set_option maxRecDepth 100000 in
set_option maxHeartbeats 4000000 in
theorem lp_X2_bestDay {h0 : jH} {w : hw} (hN : HA h0 14 w) (ok : g_ok w) (hd2 : w 4 < 2 ^ 28) {p n v : Nat} (hp : p < w 3) (hn : n < 1000) (hv : v ≤ 1) {X : jX} (hX : jRet X (some .int) none (fun v' h' => v' = some (.int (s_bestA w p n v)) ∧ cT0 h0 h')) : ∀ (m k : Nat) (h : jH) (l8 : Option Value), n - k < m → k ≤ n → cT0 h0 h → jV cX2_bestDay RX2 5 X none 9 [some (.ref 206), some (.ref 14), some (.int (nI p)), some (.int (nI n)), some (.int (nI v)), some (.int (nI (s_best (s_bf w p n) k).1)), some (.int (s_best (s_bf w p n) k).2), some (.int (nI k)), l8] [] h := by
  have h8 := ok.2.2.1
  have h7 := ok.2.2.2.1
  intro m
  induction m with
  | zero => intros; omega
  | succ m ih =>
    intro k h l8 hm hk t0
    have hf2s := t0.2.1.sh
    refine e_il7 dX2_bestDay_9 ?_
    refine e_il3 dX2_bestDay_11 ?_
    refine e_ic_geN 74 dX2_bestDay_12 (by decide) (by omega) (by omega) (fun c_12 => ?_) (fun c_12 => ?_)
    · refine e_il4 dX2_bestDay_74 ?_
      refine e_if_neN 84 dX2_bestDay_76 (by decide) (by omega) (fun c_76 => ?_) (fun c_76 => ?_)
      · refine e_il6 dX2_bestDay_84 ?_
        exact e_iret hX dX2_bestDay_86 (⟨by rw [s_bestA, if_neg (by omega), show n = k by omega], t0⟩) (fun z => z)
      · refine e_il5 dX2_bestDay_79 ?_
        refine e_goto 86 dX2_bestDay_81 (by decide) ?_
        exact e_iret hX dX2_bestDay_86 (⟨by rw [s_bestA, if_pos c_76, show n = k by omega], t0⟩) (fun z => z)
    · refine e_al0 dX2_bestDay_15 ?_
      refine e_get dX2_bestDay_16 fX2_12 t0.1 rfl ?_
      refine e_al1 dX2_bestDay_19 ?_
      refine e_cv dX2_bestDay_20 vX2_25 (m_becomeT0 t0 hN h8 h7) (by decide) rfl rfl (Nat.le_of_ble_eq_true rfl) jBud0 rfl hf2s.choose_spec ?_
      rintro _ h1 ⟨rfl, t⟩
      obtain ⟨f, k_, b_, p_, g_, z_, hC, hV⟩ := id t.2.1
      refine e_al0 dX2_bestDay_23 ?_
      refine e_il2 dX2_bestDay_24 ?_
      refine e_il7 dX2_bestDay_25 ?_
      refine e_il2 dX2_bestDay_27 ?_
      refine e_il7 dX2_bestDay_28 ?_
      refine e_il3 dX2_bestDay_30 ?_
      refine e_cv dX2_bestDay_31 vX2_45 (m_X2_passWaiting (a := p) (i := k) (b := p) (j := k) (n := n) (by omega) (by omega) (by omega) (by omega) (by omega) (fun _ => rfl) t ok (by omega)) (by decide) rfl rfl (Nat.le_of_ble_eq_true rfl) jBud0 rfl t.1 ?_
      rintro _ h2 ⟨rfl, t⟩
      clear hC hV
      obtain ⟨f, k_, b_, p_, g_, z_, hC, hV⟩ := id t.2.1
      have sm := s_wt_sm (a := p) (i := k) (b := p) (j := k) (n := n) ok
      have ok2 := s_wt_ok (a := p) (i := k) (b := p) (j := k) (n := n) ok
      have e3 := sm.1 3 (by omega)
      have e2 := sm.1 2 (by omega)
      have ep := (hV.2 p (by omega)).2.2.1
      rw [sm.2 p] at ep
      have lp := (ok.2.2.2.2.2 p hp).2.2.2.1
      have ef := hV.1 (p_ p) (by omega)
      have ef2 : f (p_ p) = s_bf w p n k := by rw [ef, ep]; rfl
      have ef3 : s_bf w p n k ≤ 99 := s_wt_f ok lp
      refine e_al0 dX2_bestDay_34 ?_
      refine e_get dX2_bestDay_35 fX2_12 t.1 rfl ?_
      refine e_get dX2_bestDay_38 fX2_49 hC.1 rfl ?_
      refine e_al0 dX2_bestDay_41 ?_
      refine e_get dX2_bestDay_42 fX2_12 t.1 rfl ?_
      refine e_get dX2_bestDay_45 fX2_52 hC.1 rfl ?_
      refine e_il2 dX2_bestDay_48 ?_
      refine e_ialdN dX2_bestDay_49 hC.2.2.2.2.1 (by omega) (by decide) ?_
      refine e_ialdN dX2_bestDay_50 hC.2.1 (by rw [ep]; omega) (by decide) ?_
      rw [ef2]
      refine e_is8 dX2_bestDay_51 rfl ?_
      refine e_il8 dX2_bestDay_53 ?_
      refine e_il6 dX2_bestDay_55 ?_
      refine e_ic_le 68 dX2_bestDay_57 (by decide) (fun c_57 => ?_) (fun c_57 => ?_)
      · refine e_inc7N dX2_bestDay_68 rfl ?_
        refine e_goto 9 dX2_bestDay_71 (by decide) ?_
        have e := s_best_le c_57
        have r := ih (k + 1) _ (some (.int (nI (s_bf w p n k)))) (by omega) (by omega) t.t0
        rw [e] at r
        exact r
      · refine e_il8 dX2_bestDay_60 ?_
        refine e_is6 dX2_bestDay_62 rfl ?_
        refine e_il7 dX2_bestDay_64 ?_
        refine e_is5 dX2_bestDay_66 rfl ?_
        refine e_inc7N dX2_bestDay_68 rfl ?_
        refine e_goto 9 dX2_bestDay_71 (by decide) ?_
        have e := s_best_gt c_57
        have r := ih (k + 1) _ (some (.int (nI (s_bf w p n k)))) (by omega) (by omega) t.t0
        rw [e] at r
        exact r
set_option maxRecDepth 100000 in
set_option maxHeartbeats 4000000 in
theorem m_X2_bestDay {h0 h : jH} {w : hw} (t0 : cT0 h0 h) (hN : HA h0 14 w) (ok : g_ok w) (hd2 : w 4 < 2 ^ 28) {p n v : Nat} (hp : p < w 3) (hn : n < 1000) (hv : v ≤ 1) : jM yX2_bestDay cX2_bestDay 9 (some .int) 5 none [.ref 206, .ref 14, .int (nI p), .int (nI n), .int (nI v)] h (fun v' h' => v' = some (.int (s_bestA w p n v)) ∧ cT0 h0 h') := by
  refine jM.ofF (by decide +kernel) rfl (Nat.le_of_ble_eq_true rfl) (fun X hX hI => ?_)
  show jV cX2_bestDay RX2 5 X none 0 [some (.ref 206), some (.ref 14), some (.int (nI p)), some (.int (nI n)), some (.int (nI v)), none, none, none, none] [] h
  refine e_iconst (nI 0) dX2_bestDay_0 (by decide) ?_
  refine e_is5 dX2_bestDay_1 rfl ?_
  refine e_iconst (-1) dX2_bestDay_3 (by decide) ?_
  refine e_is6 dX2_bestDay_4 rfl ?_
  refine e_iconst (nI 0) dX2_bestDay_6 (by decide) ?_
  refine e_is7 dX2_bestDay_7 rfl ?_
  exact lp_X2_bestDay hN ok hd2 hp hn hv hX (n + 1) 0 h none (by omega) (by omega) t0
set_option maxRecDepth 100000 in
set_option maxHeartbeats 4000000 in
theorem c_best {h : jH} {S : jS} (c : CI h S) (g : SG S) {x n v : Int32} : jM yX6_best cX6_best 4 (some .int) 6 none [.ref 0, .int x, .int n, .int v] h (cAns h (sp_best x n v S, S)) := by
  obtain ⟨c1, c2, c3, c4, c5, c6, c7, c8⟩ := id c
  obtain ⟨g0, g1, g2, ⟨ok, gd, gh⟩, ⟨ga, gp⟩, gi, gt⟩ := id g
  obtain ⟨k0, k1, k2, k3, k4, k5⟩ := id ok
  obtain ⟨f, k, b, p, gg, z, hC, hV⟩ := id c4
  obtain ⟨nx, rf, hnx, hac, -⟩ := id c5
  obtain ⟨⟨at_, ht⟩, hx6, B, hB, hb⟩ := id c3
  obtain ⟨⟨rfi, hi1, hi2⟩, hi3⟩ := id c6
  obtain ⟨hk1, fk_, hk2, hk3⟩ := id c8
  obtain ⟨hf1, hf2, hf3, hf4⟩ := id c7
  have t0 : cT0 h h := ⟨hf1, hf2, jEq.rf⟩
  refine jM.ofF (by decide +kernel) rfl (Nat.le_of_ble_eq_true rfl) (fun X hX hI => ?_)
  show jV cX6_best RX6 6 X none 0 [some (.ref 0), some (.int x), some (.int n), some (.int v)] [] h
  refine e_al0 dX6_best_0 ?_
  refine e_il1 dX6_best_1 ?_
  refine e_cv dX6_best_2 vX6_158 (m_X6_isPair c1 c4 (by omega)) (by decide) rfl rfl (Nat.le_of_ble_eq_true rfl) jBud0 rfl c1 ?_
  rintro _ _ ⟨rfl, rfl⟩
  refine e_if_eqB 27 dX6_best_5 (by decide) (fun c_5 => ?_) (fun c_5 => ?_)
  · refine e_ldc dX6_best_27 kX6_67 ?_
    exact e_iret hX dX6_best_29 (by rw [sp_best, if_neg c_5]; exact cAns.same c rfl) (fun z => z)
  · refine e_il2 dX6_best_8 ?_
    refine e_iconst (nI 1) dX6_best_9 (by decide) ?_
    refine e_bipush (nI 30) dX6_best_10 (by decide) ?_
    refine e_cs dX6_best_12 sX6_63 (m_X6_isWithinR (by decide) (by decide)) (by decide) rfl rfl (Nat.le_of_ble_eq_true rfl) jBud0 ?_
    rintro _ _ ⟨rfl, rfl⟩
    refine e_if_eqB 27 dX6_best_15 (by decide) (fun c_15 => ?_) (fun c_15 => ?_)
    · refine e_ldc dX6_best_27 kX6_67 ?_
      exact e_iret hX dX6_best_29 (by rw [sp_best, if_pos c_5, if_neg c_15]; exact cAns.same c rfl) (fun z => z)
    · refine e_il3 dX6_best_18 ?_
      refine e_iconst (nI 0) dX6_best_19 (by decide) ?_
      refine e_iconst (nI 1) dX6_best_20 (by decide) ?_
      refine e_cs dX6_best_21 sX6_63 (m_X6_isWithinR (by decide) (by decide)) (by decide) rfl rfl (Nat.le_of_ble_eq_true rfl) jBud0 ?_
      rintro _ _ ⟨rfl, rfl⟩
      refine e_if_neB 30 dX6_best_24 (by decide) (fun c_24 => ?_) (fun c_24 => ?_)
      · obtain ⟨i, hi, rfl⟩ := iN_of c_5 (by omega)
        have ei : (nI i).toNatClampNeg = i := nI_clamp (by omega)
        obtain ⟨n, ln, hn, rfl⟩ := iR_of c_15 (by decide)
        have en : (nI n).toNatClampNeg = n := nI_clamp (by omega)
        obtain ⟨v, lv, hv, rfl⟩ := iR_of c_24 (by decide)
        have ev : (nI v).toNatClampNeg = v := nI_clamp (by omega)
        refine e_al0 dX6_best_30 ?_
        refine e_get dX6_best_31 fX6_44 c1 rfl ?_
        refine e_al0 dX6_best_34 ?_
        refine e_get dX6_best_35 fX6_26 c1 rfl ?_
        refine e_il1 dX6_best_38 ?_
        refine e_il2 dX6_best_39 ?_
        refine e_il3 dX6_best_40 ?_
        refine e_cv dX6_best_41 vX6_211 (m_X2_bestDay t0 c4 ok (by omega) hi (by omega) hv) (by decide) rfl rfl (Nat.le_of_ble_eq_true rfl) jBud0 rfl hf1 ?_
        rintro _ h1 ⟨rfl, t⟩
        exact e_iret hX dX6_best_44 (by
          rw [sp_best, if_pos c_5, if_pos c_15, if_pos c_24, ei, en, ev]
          exact ⟨rfl, c.t0 t, t.lo⟩) (fun z => z)
      · refine e_ldc dX6_best_27 kX6_67 ?_
        exact e_iret hX dX6_best_29 (by rw [sp_best, if_pos c_5, if_pos c_15, if_neg c_24]; exact cAns.same c rfl) (fun z => z)
set_option maxRecDepth 100000 in
set_option maxHeartbeats 4000000 in
theorem m_X7_isNear {h : jH} {x : Int32} : jM yX7_isNear cX7_isNear 1 (some .boolean) 1 none [.int x] h (jRt (.int (jb (iR x 1 30))) h) := by
  refine jM.ofF (by decide +kernel) rfl (Nat.le_of_ble_eq_true rfl) (fun X hX hI => ?_)
  show jV cX7_isNear RX7 1 X none 0 [some (.int x)] [] h
  refine e_il0 dX7_isNear_0 ?_
  refine e_iconst (nI 1) dX7_isNear_1 (by decide) ?_
  refine e_bipush (nI 30) dX7_isNear_2 (by decide) ?_
  refine e_cs dX7_isNear_4 sX7_65 (m_X7_inR (by decide) (by decide)) (by decide) rfl rfl (Nat.le_of_ble_eq_true rfl) jBud0 ?_
  rintro _ _ ⟨rfl, rfl⟩
  exact e_zret hX dX7_isNear_7 jb_nar (⟨rfl, rfl⟩) (fun z => z)
set_option maxRecDepth 100000 in
set_option maxHeartbeats 4000000 in
theorem lp_X7_best {h0 : jH} {S : jS} (c : RI h0 S) {w : hw} (hwS : w = S.2.2.1) {s : Nat → Int32} (ok : g_ok w) (hd2 : w 4 < 2 ^ 27) {p n v : Nat} (hp : p < w 3) (hn : n < 1000) (hv : v ≤ 1) {X : jX} (hX : jRet X (some .int) none (rAns h0 (s_bestA w p n v, S))) : ∀ (m k : Nat) (h : jH) (u : hw) (l8 : Option Value), n - k < m → k ≤ n → rTr h0 h s w u → jV cX7_best RX7 5 X none 44 [some (.ref 218), some (.int (nI p)), some (.int (nI n)), some (.int (nI v)), some (.int (nI (13 + 4 * p))), some (.int (nI (s_best (s_bf w p n) k).1)), some (.int (s_best (s_bf w p n) k).2), some (.int (nI k)), l8] [] h := by
  have h8 := ok.2.2.1
  have h7 := ok.2.2.2.1
  intro m
  induction m with
  | zero => intros; omega
  | succ m ih =>
    intro k h u l8 hm hk t
    refine e_il7 dX7_best_44 ?_
    refine e_il2 dX7_best_46 ?_
    refine e_ic_geN 153 dX7_best_47 (by decide) (by omega) (by omega) (fun c_47 => ?_) (fun c_47 => ?_)
    · refine e_il3 dX7_best_153 ?_
      refine e_if_neN 162 dX7_best_154 (by decide) (by omega) (fun c_154 => ?_) (fun c_154 => ?_)
      · refine e_il6 dX7_best_162 ?_
        exact e_iret hX dX7_best_164 (⟨by rw [s_bestA, if_neg (by omega), show n = k by omega], c.tr t, t.hi⟩) (fun z => z)
      · refine e_il5 dX7_best_157 ?_
        refine e_goto 164 dX7_best_159 (by decide) ?_
        exact e_iret hX dX7_best_164 (⟨by rw [s_bestA, if_pos c_154, show n = k by omega], c.tr t, t.hi⟩) (fun z => z)
    · refine e_al0 dX7_best_50 ?_
      refine e_get dX7_best_51 fX7_25 t.1 rfl ?_
      refine e_iconst (nI 0) dX7_best_54 (by decide) ?_
      refine e_al0 dX7_best_55 ?_
      refine e_get dX7_best_56 fX7_31 t.1 rfl ?_
      refine e_iconst (nI 0) dX7_best_59 (by decide) ?_
      refine e_cs dX7_best_60 sX7_147 (m_X7_copyT t) (by decide) rfl rfl (Nat.le_of_ble_eq_true rfl) jBud0 ?_
      rintro _ h1 ⟨rfl, t⟩
      have okt := ok
      have q4 := hd2
      refine e_al0 dX7_best_63 ?_
      refine e_get dX7_best_64 fX7_31 t.1 rfl ?_
      refine e_il4 dX7_best_67 ?_
      refine e_iconst (nI 3) dX7_best_69 (by decide) ?_
      refine e_iaddN dX7_best_70 ?_
      refine e_iconst (nI 1) dX7_best_71 (by decide) ?_
      refine e_iastN dX7_best_72 t.2.2.1 (by omega) (by decide) ?_
      refine e_abs (fun h1 hh => ?_)
      replace t := t.hs hh
      replace okt := okt.peg (i := p) (v := 1) (by omega)
      clear hh
      refine e_al0 dX7_best_73 ?_
      refine e_il7 dX7_best_74 ?_
      refine e_cv dX7_best_76 vX7_210 (m_X7_goesOn (d := k) (by omega) t okt (by rw [up_ne (by omega)]; omega)) (by decide) rfl rfl (Nat.le_of_ble_eq_true rfl) jBud0 rfl t.1 ?_
      rintro _ h2 ⟨rfl, t⟩
      replace okt := s_it_ok (k) okt
      refine e_al0 dX7_best_79 ?_
      refine e_get dX7_best_80 fX7_31 t.1 rfl ?_
      refine e_il4 dX7_best_83 ?_
      refine e_iconst (nI 3) dX7_best_85 (by decide) ?_
      refine e_iaddN dX7_best_86 ?_
      refine e_iconst (nI 0) dX7_best_87 (by decide) ?_
      refine e_iastN dX7_best_88 t.2.2.1 (by omega) (by decide) ?_
      refine e_abs (fun h1 hh => ?_)
      replace t := t.hs hh
      replace okt := okt.peg (i := p) (v := 0) (by omega)
      clear hh
      refine e_al0 dX7_best_89 ?_
      refine e_il2 dX7_best_90 ?_
      refine e_il7 dX7_best_91 ?_
      refine e_isubN dX7_best_93 (by omega) ?_
      refine e_cv dX7_best_94 vX7_210 (m_X7_goesOn (d := n - k) (by omega) t okt (by rw [up_ne (by omega), s_it_4, up_ne (by omega)]; omega)) (by decide) rfl rfl (Nat.le_of_ble_eq_true rfl) jBud0 rfl t.1 ?_
      rintro _ h2 ⟨rfl, t⟩
      replace okt := s_it_ok (n - k) okt
      replace t := t.cg (s_wt_one (p := p) (n := n) (w := w) c_47 (by omega)).symm
      have lp := (ok.2.2.2.2.2 p hp).2.2.2.1
      have ef3 : s_bf w p n k ≤ 99 := s_wt_f ok lp
      refine e_al0 dX7_best_97 ?_
      refine e_get dX7_best_98 fX7_31 t.1 rfl ?_
      refine e_iconst (nI 5) dX7_best_101 (by decide) ?_
      refine e_al0 dX7_best_102 ?_
      refine e_get dX7_best_103 fX7_25 t.1 rfl ?_
      refine e_il4 dX7_best_106 ?_
      refine e_iconst (nI 2) dX7_best_108 (by decide) ?_
      refine e_iaddN dX7_best_109 ?_
      refine e_ialdN dX7_best_110 t.2.1 (by omega) (by decide) ?_
      refine e_iaddN dX7_best_111 ?_
      refine e_ialdN dX7_best_112 t.2.2.1 (by omega) (by decide) ?_
      rw [show s_wt p k p k n w (5 + w (13 + 4 * p + 2)) = s_bf w p n k from rfl]
      refine e_is8 dX7_best_113 rfl ?_
      refine e_il8 dX7_best_115 ?_
      refine e_il6 dX7_best_117 ?_
      refine e_ic_le 127 dX7_best_119 (by decide) (fun c_119 => ?_) (fun c_119 => ?_)
      · refine e_il5 dX7_best_127 ?_
        refine e_is5 dX7_best_129 rfl ?_
        refine e_il8 dX7_best_131 ?_
        refine e_il6 dX7_best_133 ?_
        refine e_ic_le 143 dX7_best_135 (by decide) (fun c_135 => ?_) (fun c_135 => ?_)
        · refine e_il6 dX7_best_143 ?_
          refine e_is6 dX7_best_145 rfl ?_
          refine e_inc7N dX7_best_147 rfl ?_
          refine e_goto 44 dX7_best_150 (by decide) ?_
          have e := s_best_le c_119
          have r := ih (k + 1) _ _ (some (.int (nI (s_bf w p n k)))) (by omega) (by omega) t
          rw [e] at r
          exact r
        · refine e_il8 dX7_best_138 ?_
          refine e_goto 145 dX7_best_140 (by decide) ?_
          refine e_is6 dX7_best_145 rfl ?_
          refine e_inc7N dX7_best_147 rfl ?_
          refine e_goto 44 dX7_best_150 (by decide) ?_
          exact absurd c_119 c_135
      · refine e_il7 dX7_best_122 ?_
        refine e_goto 129 dX7_best_124 (by decide) ?_
        refine e_is5 dX7_best_129 rfl ?_
        refine e_il8 dX7_best_131 ?_
        refine e_il6 dX7_best_133 ?_
        refine e_ic_le 143 dX7_best_135 (by decide) (fun c_135 => ?_) (fun c_135 => ?_)
        · refine e_il6 dX7_best_143 ?_
          refine e_is6 dX7_best_145 rfl ?_
          refine e_inc7N dX7_best_147 rfl ?_
          refine e_goto 44 dX7_best_150 (by decide) ?_
          exact absurd c_135 c_119
        · refine e_il8 dX7_best_138 ?_
          refine e_goto 145 dX7_best_140 (by decide) ?_
          refine e_is6 dX7_best_145 rfl ?_
          refine e_inc7N dX7_best_147 rfl ?_
          refine e_goto 44 dX7_best_150 (by decide) ?_
          have e := s_best_gt c_119
          have r := ih (k + 1) _ _ (some (.int (nI (s_bf w p n k)))) (by omega) (by omega) t
          rw [e] at r
          exact r
set_option maxRecDepth 100000 in
set_option maxHeartbeats 4000000 in
theorem r_best {h : jH} {S : jS} (c : RI h S) (g : SG S) {x n v : Int32} : jM yX7_best cX7_best 9 (some .int) 5 none [.ref 218, .int x, .int n, .int v] h (rAns h (sp_best x n v S, S)) := by
  obtain ⟨⟨s, hO, s0, s1, s2, s8, s9⟩, c2, c3, hW, c5, c6, c7, c8⟩ := id c
  obtain ⟨g0, g1, g2, ⟨ok, gd, gh⟩, ⟨ga, gp⟩, gi, gt⟩ := id g
  obtain ⟨k0, k1, k2, k3, k4, k5⟩ := id ok
  obtain ⟨B, hB, hb⟩ := id c3
  obtain ⟨Pa, hP, hPa⟩ := id c5
  obtain ⟨Im, Kk, hI1, hI2, hI3, hI4⟩ := id c6
  obtain ⟨⟨x1, hx1⟩, ⟨x2, hx2⟩, ⟨x3, hx3⟩, ⟨x4, hx4⟩, ⟨x5, hx5⟩, x6, hx6⟩ := id c7
  obtain ⟨tf, ht1, ht2⟩ := id c8
  have t0 : rTr h h s S.2.2.1 x2 := ⟨hO, hW, hx2, ⟨x3, hx3⟩, ⟨x4, hx4⟩, jEq.rf⟩
  refine jM.ofF (by decide +kernel) rfl (Nat.le_of_ble_eq_true rfl) (fun X hX hI => ?_)
  show jV cX7_best RX7 5 X none 0 [some (.ref 218), some (.int x), some (.int n), some (.int v), none, none, none, none, none] [] h
  refine e_al0 dX7_best_0 ?_
  refine e_il1 dX7_best_1 ?_
  refine e_cv dX7_best_2 vX7_195 (m_X7_isPair hO hW (by omega)) (by decide) rfl rfl (Nat.le_of_ble_eq_true rfl) jBud0 rfl hO ?_
  rintro _ _ ⟨rfl, rfl⟩
  refine e_if_eqB 24 dX7_best_5 (by decide) (fun c_5 => ?_) (fun c_5 => ?_)
  · refine e_ldc dX7_best_24 kX7_73 ?_
    exact e_iret hX dX7_best_26 (by rw [sp_best, if_neg c_5]; exact rAns.same c rfl) (fun z => z)
  · refine e_il2 dX7_best_8 ?_
    refine e_cs dX7_best_9 sX7_214 (m_X7_isNear) (by decide) rfl rfl (Nat.le_of_ble_eq_true rfl) jBud0 ?_
    rintro _ _ ⟨rfl, rfl⟩
    refine e_if_eqB 24 dX7_best_12 (by decide) (fun c_12 => ?_) (fun c_12 => ?_)
    · refine e_ldc dX7_best_24 kX7_73 ?_
      exact e_iret hX dX7_best_26 (by rw [sp_best, if_pos c_5, if_neg c_12]; exact rAns.same c rfl) (fun z => z)
    · refine e_il3 dX7_best_15 ?_
      refine e_iconst (nI 0) dX7_best_16 (by decide) ?_
      refine e_iconst (nI 1) dX7_best_17 (by decide) ?_
      refine e_cs dX7_best_18 sX7_65 (m_X7_inR (by decide) (by decide)) (by decide) rfl rfl (Nat.le_of_ble_eq_true rfl) jBud0 ?_
      rintro _ _ ⟨rfl, rfl⟩
      refine e_if_neB 27 dX7_best_21 (by decide) (fun c_21 => ?_) (fun c_21 => ?_)
      · obtain ⟨i, hi, rfl⟩ := iN_of c_5 (by omega)
        have ei : (nI i).toNatClampNeg = i := nI_clamp (by omega)
        obtain ⟨n, ln, hn, rfl⟩ := iR_of c_12 (by decide)
        have en : (nI n).toNatClampNeg = n := nI_clamp (by omega)
        obtain ⟨v, lv, hv, rfl⟩ := iR_of c_21 (by decide)
        have ev : (nI v).toNatClampNeg = v := nI_clamp (by omega)
        refine e_bipush (nI 13) dX7_best_27 (by decide) ?_
        refine e_iconst (nI 4) dX7_best_29 (by decide) ?_
        refine e_il1 dX7_best_30 ?_
        refine e_imulN dX7_best_31 ?_
        refine e_iaddN dX7_best_32 ?_
        refine e_is4 dX7_best_33 rfl ?_
        refine e_iconst (nI 0) dX7_best_35 (by decide) ?_
        refine e_is5 dX7_best_36 rfl ?_
        refine e_iconst (-1) dX7_best_38 (by decide) ?_
        refine e_is6 dX7_best_39 rfl ?_
        refine e_iconst (nI 0) dX7_best_41 (by decide) ?_
        refine e_is7 dX7_best_42 rfl ?_
        rw [show sp_best (nI i) (nI n) (nI v) S = s_bestA S.2.2.1 i n v by rw [sp_best, if_pos c_5, if_pos c_12, if_pos c_21, ei, en, ev]] at hX
        exact lp_X7_best c rfl ok (by omega) hi (by omega) hv hX (n + 1) 0 _ _ none (by omega) (by omega) t0
      · refine e_ldc dX7_best_24 kX7_73 ?_
        exact e_iret hX dX7_best_26 (by rw [sp_best, if_pos c_5, if_pos c_12, if_neg c_21]; exact rAns.same c rfl) (fun z => z)
