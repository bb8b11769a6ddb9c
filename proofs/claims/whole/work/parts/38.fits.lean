set_option maxRecDepth 100000 in
set_option maxHeartbeats 4000000 in
theorem m_X2_suppose {h0 h : jH} {w : hw} (t : cTr h0 h w) (h8 : w 2 ≤ 8) {p wh v : Nat} (hp : p < 7) (hw5 : wh < 5) : jM yX2_suppose cX2_suppose 4 (none : Option Jvm.ClassFile.FieldType) 0 none [.ref 206, .int (nI p), .int (nI wh), .int (nI v)] h (fun v_ h' => v_ = none ∧ cTr h0 h' (va_up w (s_spl p wh) v)) := by
  obtain ⟨f, k_, b_, p_, g_, z_, hC, hV⟩ := id t.2.1
  refine jM.ofF (by decide +kernel) rfl (Nat.le_of_ble_eq_true rfl) (fun X hX hI => ?_)
  show jV cX2_suppose RX2 0 X none 0 [some (.ref 206), some (.int (nI p)), some (.int (nI wh)), some (.int (nI v))] [] h
  refine e_il2 dX2_suppose_0 ?_
  rcases (show wh = 0 ∨ wh = 1 ∨ wh = 2 ∨ 3 ≤ wh by omega) with rfl | rfl | rfl | h3
  · refine e_tin 28 dX2_suppose_1 (by decide) (by decide) rfl (by decide) ?_
    refine e_al0 dX2_suppose_28 ?_
    refine e_get dX2_suppose_29 fX2_12 t.1 rfl ?_
    refine e_get dX2_suppose_32 fX2_113 hC.1 rfl ?_
    refine e_il1 dX2_suppose_35 ?_
    refine e_il3 dX2_suppose_36 ?_
    refine e_iastN dX2_suppose_37 hC.2.2.1 (by omega) (by decide) ?_
    refine e_abs (fun h1 hh => ?_)
    replace t := t.kd hC hV h8 hh
    clear hC hV hh
    refine e_goto 75 dX2_suppose_38 (by decide) ?_
    exact e_ret hX dX2_suppose_75 (⟨rfl, t.cg (by unfold s_spl; rfl)⟩) (fun z => z)
  · refine e_tin 41 dX2_suppose_1 (by decide) (by decide) rfl (by decide) ?_
    refine e_al0 dX2_suppose_41 ?_
    refine e_get dX2_suppose_42 fX2_12 t.1 rfl ?_
    refine e_il3 dX2_suppose_45 ?_
    refine e_put dX2_suppose_46 fX2_101 hC.1 (Nat.le_of_ble_eq_true rfl) (fun g => ⟨rfl, rfl⟩) ?_
    refine e_abs (fun h1 hh => ?_)
    replace t := t.wm hC hV hh
    clear hC hV hh
    refine e_goto 75 dX2_suppose_49 (by decide) ?_
    exact e_ret hX dX2_suppose_75 (⟨rfl, t.cg (by unfold s_spl; rfl)⟩) (fun z => z)
  · refine e_tin 52 dX2_suppose_1 (by decide) (by decide) rfl (by decide) ?_
    refine e_al0 dX2_suppose_52 ?_
    refine e_get dX2_suppose_53 fX2_12 t.1 rfl ?_
    refine e_get dX2_suppose_56 fX2_106 hC.1 rfl ?_
    refine e_il1 dX2_suppose_59 ?_
    refine e_il3 dX2_suppose_60 ?_
    refine e_iastN dX2_suppose_61 hC.2.2.2.2.2.1 (by omega) (by decide) ?_
    refine e_abs (fun h1 hh => ?_)
    replace t := t.pg hC hV h8 hh
    clear hC hV hh
    refine e_goto 75 dX2_suppose_62 (by decide) ?_
    exact e_ret hX dX2_suppose_75 (⟨rfl, t.cg (by unfold s_spl; rfl)⟩) (fun z => z)
  · refine e_tout 65 dX2_suppose_1 (by rw [nI_toInt (by omega)]; omega) (by decide) ?_
    refine e_al0 dX2_suppose_65 ?_
    refine e_get dX2_suppose_66 fX2_12 t.1 rfl ?_
    refine e_get dX2_suppose_69 fX2_116 hC.1 rfl ?_
    refine e_il1 dX2_suppose_72 ?_
    refine e_il3 dX2_suppose_73 ?_
    refine e_iastN dX2_suppose_74 hC.2.2.2.1 (by omega) (by decide) ?_
    refine e_abs (fun h1 hh => ?_)
    replace t := t.br hC hV h8 hh
    clear hC hV hh
    exact e_ret hX dX2_suppose_75 (⟨rfl, t.cg (by unfold s_spl; rw [if_neg (by omega), if_neg (by omega), if_neg (by omega)])⟩) (fun z => z)
set_option maxRecDepth 100000 in
set_option maxHeartbeats 4000000 in
theorem lp_X2_isTold {h0 : jH} {u : hw} (ok : g_ok u) (hd2 : u 4 < 2 ^ 28) {p n fr : Nat} (hp : p < u 3) (hn : n < 1000) {I TT : Nat → Int32} (hI0 : h0[4]? = some (jI 320 I)) (hT : ∀ d, d < n → I (fr + d) = TT d) (hf : fr + n ≤ 320) {X : jX} (hX : jRet X (some .boolean) none (fun v' h' => v' = some (.int (jb (s_tld u p n TT))) ∧ ∃ u', cTr h0 h' u')) : ∀ (m d : Nat) (h : jH), n - d < m → d ≤ n → cTr h0 h (s_it d u) → s_tld u p d TT → jV cX2_isTold RX2 4 X none 3 [some (.ref 206), some (.int (nI p)), some (.ref 4), some (.int (nI fr)), some (.int (nI n)), some (.int (nI d))] [] h := by
  have h7 := ok.2.2.2.1
  intro m
  induction m with
  | zero => intros; omega
  | succ m ih =>
    intro d h hm hdn t hd
    obtain ⟨f, k_, b_, p_, g_, z_, hC, hV⟩ := id t.2.1
    have hI := t.2.2.at (by unfold jIn; omega) hI0
    refine e_il5 dX2_isTold_3 ?_
    refine e_il4 dX2_isTold_5 ?_
    refine e_ic_geN 43 dX2_isTold_7 (by decide) (by omega) (by omega) (fun c_7 => ?_) (fun c_7 => ?_)
    · refine e_iconst (nI 1) dX2_isTold_43 (by decide) ?_
      exact e_zret hX dX2_isTold_44 rfl (⟨by rw [jb_tN (fun q hq => hd q (by omega))], _, t⟩) (fun z => z)
    · refine e_al0 dX2_isTold_10 ?_
      refine e_get dX2_isTold_11 fX2_12 t.1 rfl ?_
      refine e_cv dX2_isTold_14 vX2_38 (m_passT t (s_it_ok d ok) (by rw [s_it_4]; omega)) (by decide) rfl rfl (Nat.le_of_ble_eq_true rfl) jBud0 rfl hC.1 ?_
      rintro _ h1 ⟨rfl, t⟩
      clear hC hV
      replace t := t.cg (s_it_succ d u).symm
      obtain ⟨f, k_, b_, p_, g_, z_, hC, hV⟩ := id t.2.1
      replace hI := t.2.2.at (by unfold jIn; omega) hI0
      have e3 := s_it_lo (d + 1) u (k := 3) (by omega)
      have eb := (hV.2 p (by omega)).2.1
      refine e_al0 dX2_isTold_17 ?_
      refine e_get dX2_isTold_18 fX2_12 t.1 rfl ?_
      refine e_get dX2_isTold_21 fX2_116 hC.1 rfl ?_
      refine e_il1 dX2_isTold_24 ?_
      refine e_ialdN dX2_isTold_25 hC.2.2.2.1 (by omega) (by decide) ?_
      rw [eb]
      refine e_al2 dX2_isTold_26 ?_
      refine e_il3 dX2_isTold_27 ?_
      refine e_il5 dX2_isTold_28 ?_
      refine e_iaddN dX2_isTold_30 ?_
      refine e_ialdI dX2_isTold_31 hI (by omega) (by decide) ?_
      refine e_ic_eq 37 dX2_isTold_32 (by decide) (fun c_32 => ?_) (fun c_32 => ?_)
      · refine e_inc5N dX2_isTold_37 rfl ?_
        refine e_goto 3 dX2_isTold_40 (by decide) ?_
        exact ih (d + 1) _ (by omega) (by omega) t (s_tld_n hd (c_32.trans (hT d c_7)))
      · refine e_iconst (nI 0) dX2_isTold_35 (by decide) ?_
        exact e_zret hX dX2_isTold_36 rfl (⟨by rw [jb_fN (fun q => c_32 ((q d c_7).trans (hT d c_7).symm))], _, t⟩) (fun z => z)
set_option maxRecDepth 100000 in
set_option maxHeartbeats 4000000 in
theorem m_X2_isTold {h0 : jH} {u : hw} (ok : g_ok u) (hd2 : u 4 < 2 ^ 28) {p n fr : Nat} (hp : p < u 3) (hn : n < 1000) {I TT : Nat → Int32} (hI0 : h0[4]? = some (jI 320 I)) (hT : ∀ d, d < n → I (fr + d) = TT d) (hf : fr + n ≤ 320) {h : jH} (t : cTr h0 h u) : jM yX2_isTold cX2_isTold 6 (some .boolean) 4 none [.ref 206, .int (nI p), .ref 4, .int (nI fr), .int (nI n)] h (fun v' h' => v' = some (.int (jb (s_tld u p n TT))) ∧ ∃ u', cTr h0 h' u') := by
  refine jM.ofF (by decide +kernel) rfl (Nat.le_of_ble_eq_true rfl) (fun X hX hI => ?_)
  show jV cX2_isTold RX2 4 X none 0 [some (.ref 206), some (.int (nI p)), some (.ref 4), some (.int (nI fr)), some (.int (nI n)), none] [] h
  refine e_iconst (nI 0) dX2_isTold_0 (by decide) ?_
  refine e_is5 dX2_isTold_1 rfl ?_
  exact lp_X2_isTold ok hd2 hp hn hI0 hT hf hX (n + 1) 0 h (by omega) (by omega) t (fun q hq => absurd hq (by omega))
theorem s_sup_3 {w : hw} {p wh v : Nat} : va_up w (s_spl p wh) v 3 = w 3 := by
  refine up_ne ?_
  unfold s_spl
  repeat' split
  all_goals omega
set_option maxRecDepth 100000 in
set_option maxHeartbeats 4000000 in
theorem lp_X2_fitting {h0 : jH} {w : hw} (hN : HA h0 14 w) (ok : g_ok w) (hd2 : w 4 < 2 ^ 28) {p n fr wh : Nat} (hp : p < w 3) (hn : n < 1000) (h5 : wh < 5) {I TT : Nat → Int32} (hI0 : h0[4]? = some (jI 320 I)) (hT : ∀ d, d < n → I (fr + d) = TT d) (hf : fr + n ≤ 320) {X : jX} (hX : jRet X (some .int) none (fun v' h' => v' = some (.int (s_fitA w p n TT wh)) ∧ cT0 h0 h')) : ∀ (m k : Nat) (h : jH), s_hi wh + 1 - (s_lo wh + k) < m → s_lo wh + k ≤ s_hi wh + 1 → cT0 h0 h → jV cX2_fitting RX2 5 X none 18 [some (.ref 206), some (.ref 14), some (.int (nI p)), some (.ref 4), some (.int (nI fr)), some (.int (nI n)), some (.int (nI wh)), some (.int (nI (if wh < 3 then s_fs w p n TT wh k else 0))), some (.int (nI (s_fm w p n TT wh k))), some (.int (s_fl w p n TT wh k)), some (.int (nI (s_lo wh + k)))] [] h := by
  have h7 := ok.2.2.2.1
  have h8 := ok.2.2.1
  obtain ⟨lh1, lh2, lh3, lh4⟩ := s_lohi h5
  intro m
  induction m with
  | zero => intros; omega
  | succ m ih =>
    intro k h hm hk t0
    have hf2s := t0.2.1.sh
    refine e_il10 dX2_fitting_18 ?_
    refine e_gets 1 dX2_fitting_20 rfl gX2_76 ?_
    refine e_il6 dX2_fitting_23 ?_
    refine e_saldN 1 dX2_fitting_25 rfl h5 (by decide) ?_
    refine e_top (tb_hi h5) ?_
    refine e_ic_gtN 104 dX2_fitting_26 (by decide) (by omega) (by omega) (fun c_26 => ?_) (fun c_26 => ?_)
    · refine e_il6 dX2_fitting_104 ?_
      refine e_iconst (nI 3) dX2_fitting_106 (by decide) ?_
      refine e_ic_geN 113 dX2_fitting_107 (by decide) (by omega) (by omega) (fun c_107 => ?_) (fun c_107 => ?_)
      · refine e_il6 dX2_fitting_113 ?_
        refine e_iconst (nI 3) dX2_fitting_115 (by decide) ?_
        refine e_ic_neN 124 dX2_fitting_116 (by decide) (by omega) (by omega) (fun c_116 => ?_) (fun c_116 => ?_)
        · refine e_il9 dX2_fitting_124 ?_
          exact e_iret hX dX2_fitting_126 (⟨by rw [s_fitA, show s_hi wh + 1 - s_lo wh = k by omega, if_neg (show ¬ wh < 3 by omega), if_neg c_116], t0⟩) (fun z => z)
        · refine e_il8 dX2_fitting_119 ?_
          refine e_goto 126 dX2_fitting_121 (by decide) ?_
          exact e_iret hX dX2_fitting_126 (⟨by rw [s_fitA, show s_hi wh + 1 - s_lo wh = k by omega, if_neg (show ¬ wh < 3 by omega), if_pos c_116], t0⟩) (fun z => z)
      · refine e_il7 dX2_fitting_110 ?_
        exact e_iret hX dX2_fitting_112 (⟨by rw [s_fitA, show s_hi wh + 1 - s_lo wh = k by omega, if_pos c_107, if_pos c_107], t0⟩) (fun z => z)
    · refine e_al0 dX2_fitting_29 ?_
      refine e_get dX2_fitting_30 fX2_12 t0.1 rfl ?_
      refine e_al1 dX2_fitting_33 ?_
      refine e_cv dX2_fitting_34 vX2_25 (m_becomeT0 t0 hN h8 h7) (by decide) rfl rfl (Nat.le_of_ble_eq_true rfl) jBud0 rfl hf2s.choose_spec ?_
      rintro _ h1 ⟨rfl, t⟩
      refine e_al0 dX2_fitting_37 ?_
      refine e_il2 dX2_fitting_38 ?_
      refine e_il6 dX2_fitting_39 ?_
      refine e_il10 dX2_fitting_41 ?_
      refine e_cv dX2_fitting_43 vX2_79 (m_X2_suppose t h8 (p := p) (wh := wh) (v := s_lo wh + k) (by omega) h5) (by decide) rfl rfl (Nat.le_of_ble_eq_true rfl) jBud0 rfl t.1 ?_
      rintro _ h2 ⟨rfl, t⟩
      refine e_al0 dX2_fitting_46 ?_
      refine e_il2 dX2_fitting_47 ?_
      refine e_al3 dX2_fitting_48 ?_
      refine e_il4 dX2_fitting_49 ?_
      refine e_il5 dX2_fitting_51 ?_
      refine e_cv dX2_fitting_53 vX2_83 (m_X2_isTold (s_sup_ok ok h5 (Nat.le_add_right _ _) (by omega)) (by rw [s_sup_4]; omega) (by rw [s_sup_3]; exact hp) hn hI0 hT hf t) (by decide) rfl rfl (Nat.le_of_ble_eq_true rfl) jBud0 rfl t.1 ?_
      rintro _ h3 ⟨rfl, u', t⟩
      replace t0 := t.t0
      refine e_if_neB 62 dX2_fitting_56 (by decide) (fun c_56 => ?_) (fun c_56 => ?_)
      · refine e_il8 dX2_fitting_62 ?_
        have ml := s_fm_le (w := w) (p := p) (n := n) (TT := TT) (wh := wh) k
        refine e_if_neN 72 dX2_fitting_64 (by decide) (by omega) (fun c_64 => ?_) (fun c_64 => ?_)
        · refine e_il9 dX2_fitting_72 ?_
          refine e_is9 dX2_fitting_74 rfl ?_
          refine e_inc8N dX2_fitting_76 rfl ?_
          refine e_il7 dX2_fitting_79 ?_
          refine e_il6 dX2_fitting_81 ?_
          refine e_iconst (nI 3) dX2_fitting_83 (by decide) ?_
          refine e_ic_geN 94 dX2_fitting_84 (by decide) (by omega) (by omega) (fun c_84 => ?_) (fun c_84 => ?_)
          · refine e_iconst (nI 0) dX2_fitting_94 (by decide) ?_
            refine e_iorN dX2_fitting_95 ?_
            refine e_is7 dX2_fitting_96 rfl ?_
            refine e_inc10N dX2_fitting_98 rfl ?_
            refine e_goto 18 dX2_fitting_101 (by decide) ?_
            have r := ih (k + 1) _ (by omega) (by omega) t0
            rw [s_fm_t c_56, s_fl_t c_56, if_neg (show ¬ s_fm w p n TT wh k = 0 by omega), if_neg (show ¬ wh < 3 by omega)] at r
            rw [if_neg (show ¬ wh < 3 by omega)]
            exact r
          · refine e_iconst (nI 1) dX2_fitting_87 (by decide) ?_
            refine e_il10 dX2_fitting_88 ?_
            refine e_ishlN dX2_fitting_90 (by omega) (n_p16 (by omega)) ?_
            refine e_goto 95 dX2_fitting_91 (by decide) ?_
            refine e_iorN dX2_fitting_95 ?_
            refine e_is7 dX2_fitting_96 rfl ?_
            refine e_inc10N dX2_fitting_98 rfl ?_
            refine e_goto 18 dX2_fitting_101 (by decide) ?_
            have r := ih (k + 1) _ (by omega) (by omega) t0
            rw [s_fs_t c_56, s_fm_t c_56, s_fl_t c_56, if_neg (show ¬ s_fm w p n TT wh k = 0 by omega), if_pos c_84] at r
            rw [if_pos c_84, Nat.one_mul]
            exact r
        · refine e_il10 dX2_fitting_67 ?_
          refine e_goto 74 dX2_fitting_69 (by decide) ?_
          refine e_is9 dX2_fitting_74 rfl ?_
          refine e_inc8N dX2_fitting_76 rfl ?_
          refine e_il7 dX2_fitting_79 ?_
          refine e_il6 dX2_fitting_81 ?_
          refine e_iconst (nI 3) dX2_fitting_83 (by decide) ?_
          refine e_ic_geN 94 dX2_fitting_84 (by decide) (by omega) (by omega) (fun c_84 => ?_) (fun c_84 => ?_)
          · refine e_iconst (nI 0) dX2_fitting_94 (by decide) ?_
            refine e_iorN dX2_fitting_95 ?_
            refine e_is7 dX2_fitting_96 rfl ?_
            refine e_inc10N dX2_fitting_98 rfl ?_
            refine e_goto 18 dX2_fitting_101 (by decide) ?_
            have r := ih (k + 1) _ (by omega) (by omega) t0
            rw [s_fm_t c_56, s_fl_t c_56, if_pos c_64, if_neg (show ¬ wh < 3 by omega)] at r
            rw [if_neg (show ¬ wh < 3 by omega)]
            exact r
          · refine e_iconst (nI 1) dX2_fitting_87 (by decide) ?_
            refine e_il10 dX2_fitting_88 ?_
            refine e_ishlN dX2_fitting_90 (by omega) (n_p16 (by omega)) ?_
            refine e_goto 95 dX2_fitting_91 (by decide) ?_
            refine e_iorN dX2_fitting_95 ?_
            refine e_is7 dX2_fitting_96 rfl ?_
            refine e_inc10N dX2_fitting_98 rfl ?_
            refine e_goto 18 dX2_fitting_101 (by decide) ?_
            have r := ih (k + 1) _ (by omega) (by omega) t0
            rw [s_fs_t c_56, s_fm_t c_56, s_fl_t c_56, if_pos c_64, if_pos c_84] at r
            rw [if_pos c_84, Nat.one_mul]
            exact r
      · refine e_goto 98 dX2_fitting_59 (by decide) ?_
        refine e_inc10N dX2_fitting_98 rfl ?_
        refine e_goto 18 dX2_fitting_101 (by decide) ?_
        have r := ih (k + 1) _ (by omega) (by omega) t0
        rw [s_fs_f c_56, s_fm_f c_56, s_fl_f c_56] at r
        exact r
set_option maxRecDepth 100000 in
set_option maxHeartbeats 4000000 in
theorem m_X2_fitting {h0 : jH} {w : hw} (hN : HA h0 14 w) (ok : g_ok w) (hd2 : w 4 < 2 ^ 28) {p n fr wh : Nat} (hp : p < w 3) (hn : n < 1000) (h5 : wh < 5) {I TT : Nat → Int32} (hI0 : h0[4]? = some (jI 320 I)) (hT : ∀ d, d < n → I (fr + d) = TT d) (hf : fr + n ≤ 320) {h : jH} (t0 : cT0 h0 h) : jM yX2_fitting cX2_fitting 11 (some .int) 5 none [.ref 206, .ref 14, .int (nI p), .ref 4, .int (nI fr), .int (nI n), .int (nI wh)] h (fun v' h' => v' = some (.int (s_fitA w p n TT wh)) ∧ cT0 h0 h') := by
  refine jM.ofF (by decide +kernel) rfl (Nat.le_of_ble_eq_true rfl) (fun X hX hI => ?_)
  show jV cX2_fitting RX2 5 X none 0 [some (.ref 206), some (.ref 14), some (.int (nI p)), some (.ref 4), some (.int (nI fr)), some (.int (nI n)), some (.int (nI wh)), none, none, none, none] [] h
  refine e_iconst (nI 0) dX2_fitting_0 (by decide) ?_
  refine e_is7 dX2_fitting_1 rfl ?_
  refine e_iconst (nI 0) dX2_fitting_3 (by decide) ?_
  refine e_is8 dX2_fitting_4 rfl ?_
  refine e_ldc dX2_fitting_6 kX2_37 ?_
  refine e_is9 dX2_fitting_8 rfl ?_
  refine e_gets 0 dX2_fitting_10 rfl gX2_73 ?_
  refine e_il6 dX2_fitting_13 ?_
  refine e_saldN 0 dX2_fitting_15 rfl h5 (by decide) ?_
  refine e_top (tb_lo h5) ?_
  refine e_is10 dX2_fitting_16 rfl ?_
  have r := lp_X2_fitting hN ok hd2 hp hn h5 hI0 hT hf hX (s_hi wh + 2) 0 h (by omega) (by have := (s_lohi h5).1; omega) t0
  rw [show (if wh < 3 then s_fs w p n TT wh 0 else 0) = 0 by split <;> rfl] at r
  exact r
set_option maxRecDepth 100000 in
set_option maxHeartbeats 4000000 in
theorem c_fits {h : jH} {S : jS} (c : CI h S) (g : SG S) {x r i n v : Int32} : jM yX6_fits cX6_fits 6 (some .int) 6 none [.ref 0, .int x, .int r, .int i, .int n, .int v] h (cAns h (sp_fits x r i n v S)) := by
  obtain ⟨c1, c2, c3, c4, c5, c6, c7, c8⟩ := id c
  obtain ⟨g0, g1, g2, ⟨ok, gd, gh⟩, ⟨ga, gp⟩, gi, gt⟩ := id g
  obtain ⟨k0, k1, k2, k3, k4, k5⟩ := id ok
  obtain ⟨f, k, b, p, gg, z, hC, hV⟩ := id c4
  obtain ⟨nx, rf, hnx, hac, -⟩ := id c5
  obtain ⟨⟨at_, ht⟩, hx6, B, hB, hb⟩ := id c3
  obtain ⟨⟨rfi, hi1, hi2⟩, hi3⟩ := id c6
  obtain ⟨hk1, fk_, hk2, hk3⟩ := id c8
  obtain ⟨hf1, hf2, hf3, hf4⟩ := id c7
  have t0 : cT0 h h := ⟨hf1, hf2, jEq.rf⟩
  obtain ⟨d1, L, I, N, d2, d3, d4, dL, dN, dI⟩ := id c2
  refine jM.ofF (by decide +kernel) rfl (Nat.le_of_ble_eq_true rfl) (fun X hX hI => ?_)
  show jV cX6_fits RX6 6 X none 0 [some (.ref 0), some (.int x), some (.int r), some (.int i), some (.int n), some (.int v)] [] h
  refine e_al0 dX6_fits_0 ?_
  refine e_il1 dX6_fits_1 ?_
  refine e_cv dX6_fits_2 vX6_158 (m_X6_isPair c1 c4 (by omega)) (by decide) rfl rfl (Nat.le_of_ble_eq_true rfl) jBud0 rfl c1 ?_
  rintro _ _ ⟨rfl, rfl⟩
  refine e_if_eqB 36 dX6_fits_5 (by decide) (fun c_5 => ?_) (fun c_5 => ?_)
  · refine e_ldc dX6_fits_36 kX6_67 ?_
    exact e_iret hX dX6_fits_38 (by rw [sp_fits, if_neg c_5]; exact cAns.same c rfl) (fun z => z)
  · refine e_il2 dX6_fits_8 ?_
    refine e_cs dX6_fits_9 sX6_59 (m_X6_isRow) (by decide) rfl rfl (Nat.le_of_ble_eq_true rfl) jBud0 ?_
    rintro _ _ ⟨rfl, rfl⟩
    refine e_if_eqB 36 dX6_fits_12 (by decide) (fun c_12 => ?_) (fun c_12 => ?_)
    · refine e_ldc dX6_fits_36 kX6_67 ?_
      exact e_iret hX dX6_fits_38 (by rw [sp_fits, if_pos c_5, if_neg c_12]; exact cAns.same c rfl) (fun z => z)
    · refine e_il4 dX6_fits_15 ?_
      refine e_iconst (nI 1) dX6_fits_17 (by decide) ?_
      refine e_bipush (nI 12) dX6_fits_18 (by decide) ?_
      refine e_cs dX6_fits_20 sX6_63 (m_X6_isWithinR (by decide) (by decide)) (by decide) rfl rfl (Nat.le_of_ble_eq_true rfl) jBud0 ?_
      rintro _ _ ⟨rfl, rfl⟩
      refine e_if_eqB 36 dX6_fits_23 (by decide) (fun c_23 => ?_) (fun c_23 => ?_)
      · refine e_ldc dX6_fits_36 kX6_67 ?_
        exact e_iret hX dX6_fits_38 (by rw [sp_fits, if_pos c_5, if_pos c_12, if_neg c_23]; exact cAns.same c rfl) (fun z => z)
      · refine e_il5 dX6_fits_26 ?_
        refine e_iconst (nI 0) dX6_fits_28 (by decide) ?_
        refine e_iconst (nI 4) dX6_fits_29 (by decide) ?_
        refine e_cs dX6_fits_30 sX6_63 (m_X6_isWithinR (by decide) (by decide)) (by decide) rfl rfl (Nat.le_of_ble_eq_true rfl) jBud0 ?_
        rintro _ _ ⟨rfl, rfl⟩
        refine e_if_neB 39 dX6_fits_33 (by decide) (fun c_33 => ?_) (fun c_33 => ?_)
        · obtain ⟨r, -, hr, rfl⟩ := iR_of c_12 (by decide)
          have er : (nI r).toNatClampNeg = r := nI_clamp (by omega)
          have g1r := g1 r (by omega)
          refine e_al0 dX6_fits_39 ?_
          refine e_get dX6_fits_40 fX6_10 c1 rfl ?_
          refine e_il2 dX6_fits_43 ?_
          refine e_cv dX6_fits_44 vX6_79 (m_X4_isMissing d1 d2 d3 d4 (by omega)) (by decide) rfl rfl (Nat.le_of_ble_eq_true rfl) jBud0 rfl d1 ?_
          rintro _ _ ⟨rfl, rfl⟩
          refine e_if_eqB 56 dX6_fits_47 (by decide) (fun c_47 => ?_) (fun c_47 => ?_)
          · rw [dL r (by omega), cLane_3 g1r.1] at c_47
            refine e_al0 dX6_fits_56 ?_
            refine e_get dX6_fits_57 fX6_10 c1 rfl ?_
            refine e_il2 dX6_fits_60 ?_
            refine e_il3 dX6_fits_61 ?_
            refine e_il4 dX6_fits_62 ?_
            refine e_cv dX6_fits_64 vX6_82 (m_X4_hasPlaces d1 d2 d3 d4 (by omega) (by rw [dN r (by omega)]; omega)) (by decide) rfl rfl (Nat.le_of_ble_eq_true rfl) jBud0 rfl d1 ?_
            rintro _ _ ⟨rfl, rfl⟩
            refine e_if_neB 76 dX6_fits_67 (by decide) (fun c_67 => ?_) (fun c_67 => ?_)
            · have hpl := c_67
              rw [dN r (by omega)] at hpl
              obtain ⟨a, ha, rfl⟩ := iN_of c_5 (by omega)
              have ea : (nI a).toNatClampNeg = a := nI_clamp (by omega)
              obtain ⟨v, lv, hv, rfl⟩ := iR_of c_33 (by decide)
              have ev : (nI v).toNatClampNeg = v := nI_clamp (by omega)
              obtain ⟨n, ln, hn, rfl⟩ := iR_of c_23 (by decide)
              have en : (nI n).toNatClampNeg = n := nI_clamp (by omega)
              obtain ⟨i, n', hin, rfl, en'⟩ := iP_of hpl (by omega)
              have en2 : n = n' := (nI_eq (by omega) (by omega)).mp en'
              subst en2
              have ei : (nI i).toNatClampNeg = i := nI_clamp (by omega)
              have hT : ∀ d, d < n → I (40 * r + i + d) = S.1.2.2.2 r (i + d) := fun d hd => by rw [Nat.add_assoc]; exact dI r (by omega) (i + d) (by omega)
              refine e_al0 dX6_fits_76 ?_
              refine e_al0 dX6_fits_77 ?_
              refine e_get dX6_fits_78 fX6_44 c1 rfl ?_
              refine e_al0 dX6_fits_81 ?_
              refine e_get dX6_fits_82 fX6_26 c1 rfl ?_
              refine e_il1 dX6_fits_85 ?_
              refine e_al0 dX6_fits_86 ?_
              refine e_get dX6_fits_87 fX6_10 c1 rfl ?_
              refine e_get dX6_fits_90 fX6_93 d1 rfl ?_
              refine e_il2 dX6_fits_93 ?_
              refine e_cs dX6_fits_94 sX6_96 (m_X4_start) (by decide) rfl rfl (Nat.le_of_ble_eq_true rfl) jBud0 ?_
              rintro _ _ ⟨rfl, rfl⟩
              refine e_il3 dX6_fits_97 ?_
              refine e_iaddN dX6_fits_98 ?_
              refine e_il4 dX6_fits_99 ?_
              refine e_il5 dX6_fits_101 ?_
              refine e_cv dX6_fits_103 vX6_231 (m_X2_fitting c4 ok (by omega) ha (by omega) (by omega) d4 hT (by omega) t0) (by decide) rfl rfl (Nat.le_of_ble_eq_true rfl) jBud0 rfl hf1 ?_
              rintro _ h1 ⟨rfl, t⟩
              replace c1 := t.2.2.at (by unfold jIn; omega) c1
              refine e_cv dX6_fits_106 vX6_76 (m_X6_unfound c1) (by decide) rfl rfl (Nat.le_of_ble_eq_true rfl) jBud0 rfl c1 ?_
              rintro _ h2 ⟨rfl, t2, E2⟩
              exact e_iret hX dX6_fits_109 (by
                rw [sp_fits, if_pos c_5, if_pos c_12, if_pos c_23, if_pos c_33, er, if_neg c_47, if_pos (by rw [← dN r (by omega)]; exact c_67), ea, en, ev, ei]
                exact ⟨rfl, (c.t0 t).st t2 E2, t.lo.tr E2 (fun j q => q) (fun j q => by unfold jLo; omega)⟩) (fun z => z)
            · refine e_al0 dX6_fits_70 ?_
              refine e_iconst (nI 2) dX6_fits_71 (by decide) ?_
              refine e_cv dX6_fits_72 vX6_68 (m_X6_found c1) (by decide) rfl rfl (Nat.le_of_ble_eq_true rfl) jBud0 rfl c1 ?_
              rintro _ h1 ⟨rfl, t1, E1⟩
              exact e_iret hX dX6_fits_75 (by rw [sp_fits, if_pos c_5, if_pos c_12, if_pos c_23, if_pos c_33, er, if_neg c_47, if_neg (by rw [← dN r (by omega)]; exact c_67)]; exact ⟨rfl, c.st t1 E1, E1.mono (fun j q => by unfold jLo; omega)⟩) (fun z => z)
          · rw [dL r (by omega), cLane_3 g1r.1] at c_47
            refine e_al0 dX6_fits_50 ?_
            refine e_iconst (nI 1) dX6_fits_51 (by decide) ?_
            refine e_cv dX6_fits_52 vX6_68 (m_X6_found c1) (by decide) rfl rfl (Nat.le_of_ble_eq_true rfl) jBud0 rfl c1 ?_
            rintro _ h1 ⟨rfl, t1, E1⟩
            exact e_iret hX dX6_fits_55 (by rw [sp_fits, if_pos c_5, if_pos c_12, if_pos c_23, if_pos c_33, er, if_pos c_47]; exact ⟨rfl, c.st t1 E1, E1.mono (fun j q => by unfold jLo; omega)⟩) (fun z => z)
        · refine e_ldc dX6_fits_36 kX6_67 ?_
          exact e_iret hX dX6_fits_38 (by rw [sp_fits, if_pos c_5, if_pos c_12, if_pos c_23, if_neg c_33]; exact cAns.same c rfl) (fun z => z)
set_option maxRecDepth 100000 in
set_option maxHeartbeats 4000000 in
theorem lp_X7_keepsSo {h0 : jH} {s : Nat → Int32} {w u : hw} (ok : g_ok u) (hd2 : u 4 < 2 ^ 28) {p n fr pl v : Nat} (hp : p < 7) (hn : n < 1000) {I TT : Nat → Int32} (hI0 : h0[221]? = some (jI 320 I)) (hT : ∀ d, d < n → I (fr + d) = TT d) (hf : fr + n ≤ 320) {X : jX} (hX : jRet X (some .boolean) none (fun v' h' => v' = some (.int (jb (s_tld u p n TT))) ∧ ∃ u', rTr h0 h' s w u')) : ∀ (m d : Nat) (h : jH), n - d < m → d ≤ n → rTr h0 h s w (s_it d u) → jV cX7_keepsSo RX7 4 X none 28 [some (.ref 218), some (.int (nI p)), some (.int (nI fr)), some (.int (nI n)), some (.int (nI pl)), some (.int (nI v)), some (.int (jb (s_tld u p d TT))), some (.int (nI d))] [] h := by
  intro m
  induction m with
  | zero => intros; omega
  | succ m ih =>
    intro d h hm hdn t
    refine e_il7 dX7_keepsSo_28 ?_
    refine e_il3 dX7_keepsSo_30 ?_
    refine e_ic_geN 85 dX7_keepsSo_31 (by decide) (by omega) (by omega) (fun c_31 => ?_) (fun c_31 => ?_)
    · refine e_il6 dX7_keepsSo_85 ?_
      exact e_zret hX dX7_keepsSo_87 jb_nar (⟨by rw [show d = n by omega], _, t⟩) (fun z => z)
    · refine e_al0 dX7_keepsSo_34 ?_
      refine e_al0 dX7_keepsSo_35 ?_
      refine e_get dX7_keepsSo_36 fX7_31 t.1 rfl ?_
      refine e_cv dX7_keepsSo_39 vX7_187 (m_X7_passT t (s_it_ok d ok) (by rw [s_it_4]; omega)) (by decide) rfl rfl (Nat.le_of_ble_eq_true rfl) jBud0 rfl t.1 ?_
      rintro _ h1 ⟨rfl, t⟩
      replace t := t.cg (s_it_succ d u).symm
      refine e_il6 dX7_keepsSo_42 ?_
      refine e_if_eqB 76 dX7_keepsSo_44 (by decide) (fun c_44 => ?_) (fun c_44 => ?_)
      · refine e_iconst (nI 0) dX7_keepsSo_76 (by decide) ?_
        refine e_is6 dX7_keepsSo_77 rfl ?_
        refine e_inc7N dX7_keepsSo_79 rfl ?_
        refine e_goto 28 dX7_keepsSo_82 (by decide) ?_
        have r := ih (d + 1) _ (by omega) (by omega) t
        rw [jb_fN (c := s_tld u p (d + 1) TT) (fun q => c_44 (fun x hx => q x (by omega)))] at r
        exact r
      · refine e_al0 dX7_keepsSo_47 ?_
        refine e_get dX7_keepsSo_48 fX7_31 t.1 rfl ?_
        refine e_bipush (nI 13) dX7_keepsSo_51 (by decide) ?_
        refine e_iconst (nI 4) dX7_keepsSo_53 (by decide) ?_
        refine e_il1 dX7_keepsSo_54 ?_
        refine e_imulN dX7_keepsSo_55 ?_
        refine e_iaddN dX7_keepsSo_56 ?_
        refine e_iconst (nI 1) dX7_keepsSo_57 (by decide) ?_
        refine e_iaddN dX7_keepsSo_58 ?_
        refine e_ialdN dX7_keepsSo_59 t.2.2.1 (by omega) (by decide) ?_
        refine e_al0 dX7_keepsSo_60 ?_
        refine e_get dX7_keepsSo_61 fX7_16 t.1 rfl ?_
        refine e_il2 dX7_keepsSo_64 ?_
        refine e_il7 dX7_keepsSo_65 ?_
        refine e_iaddN dX7_keepsSo_67 ?_
        refine e_ialdI dX7_keepsSo_68 (t.2.2.2.2.2.at (by omega) hI0) (by omega) (by decide) ?_
        refine e_ic_ne 76 dX7_keepsSo_69 (by decide) (fun c_69 => ?_) (fun c_69 => ?_)
        · refine e_iconst (nI 0) dX7_keepsSo_76 (by decide) ?_
          refine e_is6 dX7_keepsSo_77 rfl ?_
          refine e_inc7N dX7_keepsSo_79 rfl ?_
          refine e_goto 28 dX7_keepsSo_82 (by decide) ?_
          have r := ih (d + 1) _ (by omega) (by omega) t
          rw [jb_fN (c := s_tld u p (d + 1) TT) (fun q => c_69 ((q d (by omega)).trans (hT d c_31).symm))] at r
          exact r
        · refine e_iconst (nI 1) dX7_keepsSo_72 (by decide) ?_
          refine e_goto 77 dX7_keepsSo_73 (by decide) ?_
          refine e_is6 dX7_keepsSo_77 rfl ?_
          refine e_inc7N dX7_keepsSo_79 rfl ?_
          refine e_goto 28 dX7_keepsSo_82 (by decide) ?_
          have r := ih (d + 1) _ (by omega) (by omega) t
          rw [jb_tN (c := s_tld u p (d + 1) TT) (s_tld_n c_44 (c_69.trans (hT d c_31)))] at r
          exact r
set_option maxRecDepth 100000 in
set_option maxHeartbeats 4000000 in
theorem m_X7_keepsSo {h0 h : jH} {s : Nat → Int32} {w u0 : hw} {p n fr pl v : Nat} (ok : g_ok (va_up w pl v)) (hd2 : va_up w pl v 4 < 2 ^ 28) (hp : p < 7) (hn : n < 1000) (hpl : pl < 41) {I TT : Nat → Int32} (hI0 : h0[221]? = some (jI 320 I)) (hT : ∀ d, d < n → I (fr + d) = TT d) (hf : fr + n ≤ 320) (t : rTr h0 h s w u0) : jM yX7_keepsSo cX7_keepsSo 8 (some .boolean) 4 none [.ref 218, .int (nI p), .int (nI fr), .int (nI n), .int (nI pl), .int (nI v)] h (fun v' h' => v' = some (.int (jb (s_tld (va_up w pl v) p n TT))) ∧ ∃ u', rTr h0 h' s w u') := by
  refine jM.ofF (by decide +kernel) rfl (Nat.le_of_ble_eq_true rfl) (fun X hX hI => ?_)
  show jV cX7_keepsSo RX7 4 X none 0 [some (.ref 218), some (.int (nI p)), some (.int (nI fr)), some (.int (nI n)), some (.int (nI pl)), some (.int (nI v)), none, none] [] h
  refine e_al0 dX7_keepsSo_0 ?_
  refine e_get dX7_keepsSo_1 fX7_25 t.1 rfl ?_
  refine e_iconst (nI 0) dX7_keepsSo_4 (by decide) ?_
  refine e_al0 dX7_keepsSo_5 ?_
  refine e_get dX7_keepsSo_6 fX7_31 t.1 rfl ?_
  refine e_iconst (nI 0) dX7_keepsSo_9 (by decide) ?_
  refine e_cs dX7_keepsSo_10 sX7_147 (m_X7_copyT t) (by decide) rfl rfl (Nat.le_of_ble_eq_true rfl) jBud0 ?_
  rintro _ h1 ⟨rfl, t⟩
  refine e_al0 dX7_keepsSo_13 ?_
  refine e_get dX7_keepsSo_14 fX7_31 t.1 rfl ?_
  refine e_il4 dX7_keepsSo_17 ?_
  refine e_il5 dX7_keepsSo_19 ?_
  refine e_iastN dX7_keepsSo_21 t.2.2.1 hpl (by decide) ?_
  refine e_abs (fun h1 hh => ?_)
  replace t := t.hs hh
  clear hh
  refine e_iconst (nI 1) dX7_keepsSo_22 (by decide) ?_
  refine e_is6 dX7_keepsSo_23 rfl ?_
  refine e_iconst (nI 0) dX7_keepsSo_25 (by decide) ?_
  refine e_is7 dX7_keepsSo_26 rfl ?_
  have r := lp_X7_keepsSo (pl := pl) (v := v) ok hd2 hp hn hI0 hT hf hX (n + 1) 0 _ (by omega) (by omega) t
  rw [jb_tN] at r
  · exact r
  · intro q hq; omega
theorem m_X7_keepsSoE {h0 h : jH} {s : Nat → Int32} {w u0 : hw} {p n fr pl pl' v : Nat} (e : pl' = pl) (ok : g_ok (va_up w pl' v)) (hd2 : va_up w pl' v 4 < 2 ^ 28) (hp : p < 7) (hn : n < 1000) (hpl : pl < 41) {I TT : Nat → Int32} (hI0 : h0[221]? = some (jI 320 I)) (hT : ∀ d, d < n → I (fr + d) = TT d) (hf : fr + n ≤ 320) (t : rTr h0 h s w u0) : jM yX7_keepsSo cX7_keepsSo 8 (some .boolean) 4 none [.ref 218, .int (nI p), .int (nI fr), .int (nI n), .int (nI pl), .int (nI v)] h (fun v' h' => v' = some (.int (jb (s_tld (va_up w pl' v) p n TT))) ∧ ∃ u', rTr h0 h' s w u') := by
  subst e
  exact m_X7_keepsSo ok hd2 hp hn hpl hI0 hT hf t
set_option maxRecDepth 100000 in
set_option maxHeartbeats 4000000 in
theorem lp_X7_fits1 {h0 : jH} {s : Nat → Int32} {w : hw} (ok : g_ok w) (hd2 : w 4 < 2 ^ 28) {p n fr wh : Nat} (hp : p < w 3) (hn : n < 1000) (h5 : wh < 5) {I TT : Nat → Int32} (hI0 : h0[221]? = some (jI 320 I)) (hT : ∀ d, d < n → I (fr + d) = TT d) (hf : fr + n ≤ 320) {l2 l3 : Option Value} (h3 : wh < 3) {l9 : Int32} {l10 : Option Value} {X : jX} (K : ∀ (h : jH) (u : hw) (l12 : Option Value), rTr h0 h s w u → jV cX7_fits RX7 5 X none 201 [some (.ref 218), some (.int (nI p)), l2, l3, some (.int (nI n)), some (.int (nI wh)), some (.int (nI fr)), some (.int (nI (13 + 4 * p))), some (.int (nI (s_fs w p n TT wh (s_hi wh + 1 - s_lo wh)))), some (.int l9), l10, some (.int (nI (s_hi wh))), l12] [] h) : ∀ (m k : Nat) (h : jH) (u : hw), s_hi wh + 1 - (s_lo wh + k) < m → s_lo wh + k ≤ s_hi wh + 1 → rTr h0 h s w u → jV cX7_fits RX7 5 X none 137 [some (.ref 218), some (.int (nI p)), l2, l3, some (.int (nI n)), some (.int (nI wh)), some (.int (nI fr)), some (.int (nI (13 + 4 * p))), some (.int (nI (s_fs w p n TT wh k))), some (.int l9), l10, some (.int (nI (s_hi wh))), some (.int (nI (s_lo wh + k)))] [] h := by
  have h7 := ok.2.2.2.1
  have h8 := ok.2.2.1
  obtain ⟨lh1, lh2, lh3, lh4⟩ := s_lohi h5
  have lh5 := lh3 h3
  intro m
  induction m with
  | zero => intros; omega
  | succ m ih =>
    intro k h u hm hk t
    refine e_il12 dX7_fits_137 ?_
    refine e_il11 dX7_fits_139 ?_
    refine e_ic_gtN 201 dX7_fits_141 (by decide) (by omega) (by omega) (fun c_141 => ?_) (fun c_141 => ?_)
    · rw [show k = s_hi wh + 1 - s_lo wh by omega]
      exact K _ _ _ t
    · refine e_il8 dX7_fits_144 ?_
      refine e_al0 dX7_fits_146 ?_
      refine e_il1 dX7_fits_147 ?_
      refine e_il6 dX7_fits_148 ?_
      refine e_il4 dX7_fits_150 ?_
      refine e_il5 dX7_fits_152 ?_
      refine e_if_neN 162 dX7_fits_154 (by decide) (by omega) (fun c_154 => ?_) (fun c_154 => ?_)
      · refine e_il5 dX7_fits_162 ?_
        refine e_iconst (nI 1) dX7_fits_164 (by decide) ?_
        refine e_ic_neN 172 dX7_fits_165 (by decide) (by omega) (by omega) (fun c_165 => ?_) (fun c_165 => ?_)
        · refine e_il7 dX7_fits_172 ?_
          refine e_iconst (nI 3) dX7_fits_174 (by decide) ?_
          refine e_iaddN dX7_fits_175 ?_
          refine e_il12 dX7_fits_176 ?_
          refine e_cv dX7_fits_178 vX7_227 (m_X7_keepsSoE (v := s_lo wh + k) (show s_spl p wh = 13 + 4 * p + 3 by unfold s_spl; rw [if_neg (by omega), if_neg c_165, if_pos (by omega)]) (s_sup_ok ok h5 (Nat.le_add_right _ _) (by omega)) (by rw [s_sup_4]; exact hd2) (by omega) hn (by omega) hI0 hT hf t) (by decide) rfl rfl (Nat.le_of_ble_eq_true rfl) jBud0 rfl t.1 ?_
          rintro _ h1 ⟨rfl, u', t⟩
          refine e_if_eqB 191 dX7_fits_181 (by decide) (fun c_181 => ?_) (fun c_181 => ?_)
          · refine e_iconst (nI 0) dX7_fits_191 (by decide) ?_
            refine e_iorN dX7_fits_192 ?_
            refine e_is8 dX7_fits_193 rfl ?_
            refine e_inc12N dX7_fits_195 rfl ?_
            refine e_goto 137 dX7_fits_198 (by decide) ?_
            have r := ih (k + 1) _ _ (by omega) (by omega) t
            rw [s_fs_f c_181] at r
            rw [Nat.or_zero]
            exact r
          · refine e_iconst (nI 1) dX7_fits_184 (by decide) ?_
            refine e_il12 dX7_fits_185 ?_
            refine e_ishlN dX7_fits_187 (by omega) (n_p16 (by omega)) ?_
            refine e_goto 192 dX7_fits_188 (by decide) ?_
            refine e_iorN dX7_fits_192 ?_
            refine e_is8 dX7_fits_193 rfl ?_
            refine e_inc12N dX7_fits_195 rfl ?_
            refine e_goto 137 dX7_fits_198 (by decide) ?_
            have r := ih (k + 1) _ _ (by omega) (by omega) t
            rw [s_fs_t c_181] at r
            rw [Nat.one_mul]
            exact r
        · refine e_iconst (nI 0) dX7_fits_168 (by decide) ?_
          refine e_goto 176 dX7_fits_169 (by decide) ?_
          refine e_il12 dX7_fits_176 ?_
          refine e_cv dX7_fits_178 vX7_227 (m_X7_keepsSoE (v := s_lo wh + k) (show s_spl p wh = 0 by unfold s_spl; rw [if_neg (by omega), if_pos c_165]) (s_sup_ok ok h5 (Nat.le_add_right _ _) (by omega)) (by rw [s_sup_4]; exact hd2) (by omega) hn (by omega) hI0 hT hf t) (by decide) rfl rfl (Nat.le_of_ble_eq_true rfl) jBud0 rfl t.1 ?_
          rintro _ h1 ⟨rfl, u', t⟩
          refine e_if_eqB 191 dX7_fits_181 (by decide) (fun c_181 => ?_) (fun c_181 => ?_)
          · refine e_iconst (nI 0) dX7_fits_191 (by decide) ?_
            refine e_iorN dX7_fits_192 ?_
            refine e_is8 dX7_fits_193 rfl ?_
            refine e_inc12N dX7_fits_195 rfl ?_
            refine e_goto 137 dX7_fits_198 (by decide) ?_
            have r := ih (k + 1) _ _ (by omega) (by omega) t
            rw [s_fs_f c_181] at r
            rw [Nat.or_zero]
            exact r
          · refine e_iconst (nI 1) dX7_fits_184 (by decide) ?_
            refine e_il12 dX7_fits_185 ?_
            refine e_ishlN dX7_fits_187 (by omega) (n_p16 (by omega)) ?_
            refine e_goto 192 dX7_fits_188 (by decide) ?_
            refine e_iorN dX7_fits_192 ?_
            refine e_is8 dX7_fits_193 rfl ?_
            refine e_inc12N dX7_fits_195 rfl ?_
            refine e_goto 137 dX7_fits_198 (by decide) ?_
            have r := ih (k + 1) _ _ (by omega) (by omega) t
            rw [s_fs_t c_181] at r
            rw [Nat.one_mul]
            exact r
      · refine e_il7 dX7_fits_157 ?_
        refine e_goto 176 dX7_fits_159 (by decide) ?_
        refine e_il12 dX7_fits_176 ?_
        refine e_cv dX7_fits_178 vX7_227 (m_X7_keepsSoE (v := s_lo wh + k) (show s_spl p wh = 13 + 4 * p by unfold s_spl; rw [if_pos c_154]) (s_sup_ok ok h5 (Nat.le_add_right _ _) (by omega)) (by rw [s_sup_4]; exact hd2) (by omega) hn (by omega) hI0 hT hf t) (by decide) rfl rfl (Nat.le_of_ble_eq_true rfl) jBud0 rfl t.1 ?_
        rintro _ h1 ⟨rfl, u', t⟩
        refine e_if_eqB 191 dX7_fits_181 (by decide) (fun c_181 => ?_) (fun c_181 => ?_)
        · refine e_iconst (nI 0) dX7_fits_191 (by decide) ?_
          refine e_iorN dX7_fits_192 ?_
          refine e_is8 dX7_fits_193 rfl ?_
          refine e_inc12N dX7_fits_195 rfl ?_
          refine e_goto 137 dX7_fits_198 (by decide) ?_
          have r := ih (k + 1) _ _ (by omega) (by omega) t
          rw [s_fs_f c_181] at r
          rw [Nat.or_zero]
          exact r
        · refine e_iconst (nI 1) dX7_fits_184 (by decide) ?_
          refine e_il12 dX7_fits_185 ?_
          refine e_ishlN dX7_fits_187 (by omega) (n_p16 (by omega)) ?_
          refine e_goto 192 dX7_fits_188 (by decide) ?_
          refine e_iorN dX7_fits_192 ?_
          refine e_is8 dX7_fits_193 rfl ?_
          refine e_inc12N dX7_fits_195 rfl ?_
          refine e_goto 137 dX7_fits_198 (by decide) ?_
          have r := ih (k + 1) _ _ (by omega) (by omega) t
          rw [s_fs_t c_181] at r
          rw [Nat.one_mul]
          exact r
set_option maxRecDepth 100000 in
set_option maxHeartbeats 4000000 in
theorem lp_X7_fits2 {h0 : jH} {s : Nat → Int32} {w : hw} (ok : g_ok w) (hd2 : w 4 < 2 ^ 28) {p n fr wh : Nat} (hp : p < w 3) (hn : n < 1000) (h5 : wh < 5) {I TT : Nat → Int32} (hI0 : h0[221]? = some (jI 320 I)) (hT : ∀ d, d < n → I (fr + d) = TT d) (hf : fr + n ≤ 320) {l2 l3 : Option Value} (h3 : 3 ≤ wh) {l8 : Int32} {X : jX} (K : ∀ (h : jH) (u : hw) (l11 l12 : Option Value), rTr h0 h s w u → jV cX7_fits RX7 5 X none 269 [some (.ref 218), some (.int (nI p)), l2, l3, some (.int (nI n)), some (.int (nI wh)), some (.int (nI fr)), some (.int (nI (13 + 4 * p))), some (.int l8), some (.int (nI (s_dm w p n TT wh 41))), some (.int (s_de w p n TT wh 41)), l11, l12] [] h) : ∀ (m j : Nat) (h : jH) (u : hw) (l12 : Option Value), 41 - j < m → j ≤ 41 → rTr h0 h s w u → jV cX7_fits RX7 5 X none 212 [some (.ref 218), some (.int (nI p)), l2, l3, some (.int (nI n)), some (.int (nI wh)), some (.int (nI fr)), some (.int (nI (13 + 4 * p))), some (.int l8), some (.int (nI (s_dm w p n TT wh j))), some (.int (s_de w p n TT wh j)), some (.int (s_dn j)), l12] [] h := by
  have h7 := ok.2.2.2.1
  have h8 := ok.2.2.1
  intro m
  induction m with
  | zero => intros; omega
  | succ m ih =>
    intro j h u l12 hm hj t
    by_cases z : j = 41
    · rw [z]
      refine e_il11 dX7_fits_212 ?_
      refine e_if_lt 269 dX7_fits_214 (by decide) (fun c_214 => ?_) (fun c_214 => ?_)
      · exact K _ _ _ _ t
      · exact absurd (by decide) c_214
    · rw [show s_dn j = nI (40 - j) from if_pos (by omega)]
      refine e_il11 dX7_fits_212 ?_
      refine e_if_ltN 269 dX7_fits_214 (by decide) (by omega) ?_
      refine e_al0 dX7_fits_217 ?_
      refine e_il1 dX7_fits_218 ?_
      refine e_il6 dX7_fits_219 ?_
      refine e_il4 dX7_fits_221 ?_
      refine e_il7 dX7_fits_223 ?_
      refine e_iconst (nI 1) dX7_fits_225 (by decide) ?_
      refine e_iaddN dX7_fits_226 ?_
      refine e_il11 dX7_fits_227 ?_
      refine e_cv dX7_fits_229 vX7_227 (m_X7_keepsSoE (v := 40 - j) (show s_spl p wh = 13 + 4 * p + 1 by unfold s_spl; rw [if_neg (by omega), if_neg (by omega), if_neg (by omega)]) (s_sup_ok ok h5 (by have := (s_lohi h5).2.2.2 h3; omega) (by have := (s_lohi h5).2.2.2 h3; omega)) (by rw [s_sup_4]; exact hd2) (by omega) hn (by omega) hI0 hT hf t) (by decide) rfl rfl (Nat.le_of_ble_eq_true rfl) jBud0 rfl t.1 ?_
      rintro _ h1 ⟨rfl, u', t⟩
      refine e_is12 dX7_fits_232 rfl ?_
      refine e_il9 dX7_fits_234 ?_
      refine e_il12 dX7_fits_236 ?_
      refine e_if_eqB 245 dX7_fits_238 (by decide) (fun c_238 => ?_) (fun c_238 => ?_)
      · refine e_iconst (nI 0) dX7_fits_245 (by decide) ?_
        refine e_iaddN dX7_fits_246 ?_
        refine e_is9 dX7_fits_247 rfl ?_
        refine e_il12 dX7_fits_249 ?_
        refine e_if_eqB 259 dX7_fits_251 (by decide) (fun c_251 => ?_) (fun c_251 => ?_)
        · refine e_il10 dX7_fits_259 ?_
          refine e_is10 dX7_fits_261 rfl ?_
          refine e_inc11 (-1) dX7_fits_263 (by decide) rfl ?_
          refine e_goto 212 dX7_fits_266 (by decide) ?_
          have r := ih (j + 1) _ _ (some (.int (jb (s_tld (va_up w (s_spl p wh) (40 - j)) p n TT)))) (by omega) (by omega) t
          rw [s_dm, s_de, if_neg c_238, if_neg c_238] at r
          rw [s_dn_s (by omega)]
          exact r
        · refine e_il11 dX7_fits_254 ?_
          refine e_goto 261 dX7_fits_256 (by decide) ?_
          refine e_is10 dX7_fits_261 rfl ?_
          refine e_inc11 (-1) dX7_fits_263 (by decide) rfl ?_
          refine e_goto 212 dX7_fits_266 (by decide) ?_
          exact absurd c_251 c_238
      · refine e_iconst (nI 1) dX7_fits_241 (by decide) ?_
        refine e_goto 246 dX7_fits_242 (by decide) ?_
        refine e_iaddN dX7_fits_246 ?_
        refine e_is9 dX7_fits_247 rfl ?_
        refine e_il12 dX7_fits_249 ?_
        refine e_if_eqB 259 dX7_fits_251 (by decide) (fun c_251 => ?_) (fun c_251 => ?_)
        · refine e_il10 dX7_fits_259 ?_
          refine e_is10 dX7_fits_261 rfl ?_
          refine e_inc11 (-1) dX7_fits_263 (by decide) rfl ?_
          refine e_goto 212 dX7_fits_266 (by decide) ?_
          exact absurd c_238 c_251
        · refine e_il11 dX7_fits_254 ?_
          refine e_goto 261 dX7_fits_256 (by decide) ?_
          refine e_is10 dX7_fits_261 rfl ?_
          refine e_inc11 (-1) dX7_fits_263 (by decide) rfl ?_
          refine e_goto 212 dX7_fits_266 (by decide) ?_
          have r := ih (j + 1) _ _ (some (.int (jb (s_tld (va_up w (s_spl p wh) (40 - j)) p n TT)))) (by omega) (by omega) t
          rw [s_dm, s_de, if_pos c_238, if_pos c_238] at r
          rw [s_dn_s (by omega)]
          exact r
set_option maxRecDepth 100000 in
set_option maxHeartbeats 4000000 in
theorem r_fits {h : jH} {S : jS} (c : RI h S) (g : SG S) {x r i n v : Int32} : jM yX7_fits cX7_fits 13 (some .int) 5 none [.ref 218, .int x, .int r, .int i, .int n, .int v] h (rAns h (sp_fits x r i n v S)) := by
  obtain ⟨⟨s, hO, s0, s1, s2, s8, s9⟩, c2, c3, hW, c5, c6, c7, c8⟩ := id c
  obtain ⟨g0, g1, g2, ⟨ok, gd, gh⟩, ⟨ga, gp⟩, gi, gt⟩ := id g
  obtain ⟨k0, k1, k2, k3, k4, k5⟩ := id ok
  obtain ⟨B, hB, hb⟩ := id c3
  obtain ⟨Pa, hP, hPa⟩ := id c5
  obtain ⟨Im, Kk, hI1, hI2, hI3, hI4⟩ := id c6
  obtain ⟨⟨x1, hx1⟩, ⟨x2, hx2⟩, ⟨x3, hx3⟩, ⟨x4, hx4⟩, ⟨x5, hx5⟩, x6, hx6⟩ := id c7
  obtain ⟨tf, ht1, ht2⟩ := id c8
  have t0 : rTr h h s S.2.2.1 x2 := ⟨hO, hW, hx2, ⟨x3, hx3⟩, ⟨x4, hx4⟩, jEq.rf⟩
  obtain ⟨L, I, Sp, N, d1, d2, d3, d4, dL, dN, dI⟩ := id c2
  refine jM.ofF (by decide +kernel) rfl (Nat.le_of_ble_eq_true rfl) (fun X hX hI => ?_)
  show jV cX7_fits RX7 5 X none 0 [some (.ref 218), some (.int x), some (.int r), some (.int i), some (.int n), some (.int v), none, none, none, none, none, none, none] [] h
  refine e_al0 dX7_fits_0 ?_
  refine e_il1 dX7_fits_1 ?_
  refine e_cv dX7_fits_2 vX7_195 (m_X7_isPair hO hW (by omega)) (by decide) rfl rfl (Nat.le_of_ble_eq_true rfl) jBud0 rfl hO ?_
  rintro _ _ ⟨rfl, rfl⟩
  refine e_if_eqB 36 dX7_fits_5 (by decide) (fun c_5 => ?_) (fun c_5 => ?_)
  · refine e_ldc dX7_fits_36 kX7_73 ?_
    exact e_iret hX dX7_fits_38 (by rw [sp_fits, if_neg c_5]; exact rAns.same c rfl) (fun z => z)
  · refine e_il2 dX7_fits_8 ?_
    refine e_cs dX7_fits_9 sX7_69 (m_X7_isRow) (by decide) rfl rfl (Nat.le_of_ble_eq_true rfl) jBud0 ?_
    rintro _ _ ⟨rfl, rfl⟩
    refine e_if_eqB 36 dX7_fits_12 (by decide) (fun c_12 => ?_) (fun c_12 => ?_)
    · refine e_ldc dX7_fits_36 kX7_73 ?_
      exact e_iret hX dX7_fits_38 (by rw [sp_fits, if_pos c_5, if_neg c_12]; exact rAns.same c rfl) (fun z => z)
    · refine e_il4 dX7_fits_15 ?_
      refine e_iconst (nI 1) dX7_fits_17 (by decide) ?_
      refine e_bipush (nI 12) dX7_fits_18 (by decide) ?_
      refine e_cs dX7_fits_20 sX7_65 (m_X7_inR (by decide) (by decide)) (by decide) rfl rfl (Nat.le_of_ble_eq_true rfl) jBud0 ?_
      rintro _ _ ⟨rfl, rfl⟩
      refine e_if_eqB 36 dX7_fits_23 (by decide) (fun c_23 => ?_) (fun c_23 => ?_)
      · refine e_ldc dX7_fits_36 kX7_73 ?_
        exact e_iret hX dX7_fits_38 (by rw [sp_fits, if_pos c_5, if_pos c_12, if_neg c_23]; exact rAns.same c rfl) (fun z => z)
      · refine e_il5 dX7_fits_26 ?_
        refine e_iconst (nI 0) dX7_fits_28 (by decide) ?_
        refine e_iconst (nI 4) dX7_fits_29 (by decide) ?_
        refine e_cs dX7_fits_30 sX7_65 (m_X7_inR (by decide) (by decide)) (by decide) rfl rfl (Nat.le_of_ble_eq_true rfl) jBud0 ?_
        rintro _ _ ⟨rfl, rfl⟩
        refine e_if_neB 39 dX7_fits_33 (by decide) (fun c_33 => ?_) (fun c_33 => ?_)
        · obtain ⟨r, -, hr, rfl⟩ := iR_of c_12 (by decide)
          have er : (nI r).toNatClampNeg = r := nI_clamp (by omega)
          have g1r := g1 r (by omega)
          refine e_al0 dX7_fits_39 ?_
          refine e_il2 dX7_fits_40 ?_
          refine e_cv dX7_fits_41 vX7_81 (m_X7_isMissing hO d1 (by omega)) (by decide) rfl rfl (Nat.le_of_ble_eq_true rfl) jBud0 rfl hO ?_
          rintro _ _ ⟨rfl, rfl⟩
          refine e_if_eqB 53 dX7_fits_44 (by decide) (fun c_44 => ?_) (fun c_44 => ?_)
          · rw [dL r (by omega), rLane_3 g1r.1] at c_44
            refine e_al0 dX7_fits_53 ?_
            refine e_il2 dX7_fits_54 ?_
            refine e_il3 dX7_fits_55 ?_
            refine e_il4 dX7_fits_56 ?_
            refine e_cv dX7_fits_58 vX7_88 (m_X7_isPart hO d2 (by omega) (by rw [dN r (by omega)]; omega)) (by decide) rfl rfl (Nat.le_of_ble_eq_true rfl) jBud0 rfl hO ?_
            rintro _ _ ⟨rfl, rfl⟩
            refine e_if_neB 70 dX7_fits_61 (by decide) (fun c_61 => ?_) (fun c_61 => ?_)
            · have hpl := c_61
              rw [dN r (by omega)] at hpl
              obtain ⟨a, ha, rfl⟩ := iN_of c_5 (by omega)
              have ea : (nI a).toNatClampNeg = a := nI_clamp (by omega)
              obtain ⟨v, lv, hv, rfl⟩ := iR_of c_33 (by decide)
              have ev : (nI v).toNatClampNeg = v := nI_clamp (by omega)
              obtain ⟨n, ln, hn, rfl⟩ := iR_of c_23 (by decide)
              have en : (nI n).toNatClampNeg = n := nI_clamp (by omega)
              obtain ⟨i, n', hin, rfl, en'⟩ := iP_of hpl (by omega)
              have en2 : n = n' := (nI_eq (by omega) (by omega)).mp en'
              subst en2
              have ei : (nI i).toNatClampNeg = i := nI_clamp (by omega)
              have hT : ∀ d, d < n → I (40 * r + i + d) = S.1.2.2.2 r (i + d) := fun d hd => by rw [Nat.add_assoc]; exact dI r (by omega) (i + d) (by omega)
              obtain ⟨lh1, lh2, lh3, lh4⟩ := s_lohi (wh := v) (by omega)
              refine e_bipush (nI 40) dX7_fits_70 (by decide) ?_
              refine e_il2 dX7_fits_72 ?_
              refine e_imulN dX7_fits_73 ?_
              refine e_il3 dX7_fits_74 ?_
              refine e_iaddN dX7_fits_75 ?_
              refine e_is6 dX7_fits_76 rfl ?_
              refine e_bipush (nI 13) dX7_fits_78 (by decide) ?_
              refine e_iconst (nI 4) dX7_fits_80 (by decide) ?_
              refine e_il1 dX7_fits_81 ?_
              refine e_imulN dX7_fits_82 ?_
              refine e_iaddN dX7_fits_83 ?_
              refine e_is7 dX7_fits_84 rfl ?_
              refine e_iconst (nI 0) dX7_fits_86 (by decide) ?_
              refine e_is8 dX7_fits_87 rfl ?_
              refine e_iconst (nI 0) dX7_fits_89 (by decide) ?_
              refine e_is9 dX7_fits_90 rfl ?_
              refine e_ldc dX7_fits_92 kX7_59 ?_
              refine e_is10 dX7_fits_94 rfl ?_
              refine e_il5 dX7_fits_96 ?_
              refine e_iconst (nI 3) dX7_fits_98 (by decide) ?_
              refine e_ic_geN 208 dX7_fits_99 (by decide) (by omega) (by omega) (fun c_99 => ?_) (fun c_99 => ?_)
              · refine e_bipush (nI 40) dX7_fits_208 (by decide) ?_
                refine e_is11 dX7_fits_210 rfl ?_
                refine lp_X7_fits2 ok (by omega) ha (by omega) (by omega) d3 hT (by omega) c_99 (fun h u l11 l12 t => ?_) 42 0 _ _ none (by omega) (by omega) t0
                refine e_al0 dX7_fits_269 ?_
                refine e_il5 dX7_fits_270 ?_
                refine e_iconst (nI 3) dX7_fits_272 (by decide) ?_
                refine e_ic_neN 281 dX7_fits_273 (by decide) (by omega) (by omega) (fun c_273 => ?_) (fun c_273 => ?_)
                · refine e_il10 dX7_fits_281 ?_
                  refine e_cv dX7_fits_283 vX7_78 (m_X7_well t.1) (by decide) rfl rfl (Nat.le_of_ble_eq_true rfl) jBud0 rfl t.1 ?_
                  rintro _ h2 ⟨rfl, t2, E2⟩
                  exact e_iret hX dX7_fits_286 (by
                    rw [show sp_fits (nI a) (nI r) (nI i) (nI n) (nI v) S = (s_fitA S.2.2.1 a n (fun d => S.1.2.2.2 r (i + d)) v, z_st S 0) by rw [sp_fits, if_pos c_5, if_pos c_12, if_pos c_23, if_pos c_33, er, if_neg c_44, if_pos (by rw [← dN r (by omega)]; exact c_61), ea, en, ev, ei]]
                    exact ⟨by rw [s_fitA, if_neg (by omega), if_neg c_273, (lh4 c_99).1, (lh4 c_99).2, s_de_eq (lh4 c_99).2 41 (by omega), if_pos (show s_fm S.2.2.1 a n (fun d => S.1.2.2.2 r (i + d)) v (41 - 41) = 0 from rfl)], (c.tr t).st ⟨s1, s2, s8, s9⟩ t2 E2, t.hi.tr E2 (fun j q => q) (fun j q => by unfold jHi; omega)⟩) (fun z => z)
                · refine e_il9 dX7_fits_276 ?_
                  refine e_goto 283 dX7_fits_278 (by decide) ?_
                  refine e_cv dX7_fits_283 vX7_78 (m_X7_well t.1) (by decide) rfl rfl (Nat.le_of_ble_eq_true rfl) jBud0 rfl t.1 ?_
                  rintro _ h2 ⟨rfl, t2, E2⟩
                  exact e_iret hX dX7_fits_286 (by
                    rw [show sp_fits (nI a) (nI r) (nI i) (nI n) (nI v) S = (s_fitA S.2.2.1 a n (fun d => S.1.2.2.2 r (i + d)) v, z_st S 0) by rw [sp_fits, if_pos c_5, if_pos c_12, if_pos c_23, if_pos c_33, er, if_neg c_44, if_pos (by rw [← dN r (by omega)]; exact c_61), ea, en, ev, ei]]
                    exact ⟨by rw [s_fitA, if_neg (by omega), if_pos c_273, (lh4 c_99).1, (lh4 c_99).2, s_dm_eq (lh4 c_99).2 41 (by omega)]; rw [show s_fm S.2.2.1 a n (fun d => S.1.2.2.2 r (i + d)) v (41 - 41) = 0 from rfl, Nat.zero_add], (c.tr t).st ⟨s1, s2, s8, s9⟩ t2 E2, t.hi.tr E2 (fun j q => q) (fun j q => by unfold jHi; omega)⟩) (fun z => z)
              · refine e_il5 dX7_fits_102 ?_
                refine e_if_neN 111 dX7_fits_104 (by decide) (by omega) (fun c_104 => ?_) (fun c_104 => ?_)
                · refine e_il5 dX7_fits_111 ?_
                  refine e_iconst (nI 1) dX7_fits_113 (by decide) ?_
                  refine e_ic_neN 122 dX7_fits_114 (by decide) (by omega) (by omega) (fun c_114 => ?_) (fun c_114 => ?_)
                  · refine e_iconst (nI 1) dX7_fits_122 (by decide) ?_
                    refine e_is11 dX7_fits_123 rfl ?_
                    refine e_il5 dX7_fits_125 ?_
                    refine e_if_neN 134 dX7_fits_127 (by decide) (by omega) (fun c_127 => ?_) (fun c_127 => ?_)
                    · refine e_iconst (nI 0) dX7_fits_134 (by decide) ?_
                      refine e_is12 dX7_fits_135 rfl ?_
                      have eh : s_hi v = 1 := by unfold s_hi; rw [if_neg (by omega), if_neg c_114, if_pos (by omega)]
                      have el : s_lo v = 0 := by unfold s_lo; rw [if_neg (by omega)]
                      have r_ := lp_X7_fits1 ok (by omega) ha (n := n) (by omega) (wh := v) (by omega) d3 hT (by omega) c_99 (l2 := some (.int (nI r))) (l3 := some (.int (nI i))) (l9 := nI 0) (l10 := some (.int (-1000000))) (X := X) (fun h u l12 t => ?_) (s_hi v + 2) 0 _ _ (by omega) (by omega) t0
                      · rw [eh, el] at r_
                        exact r_
                      · skip
                        refine e_al0 dX7_fits_201 ?_
                        refine e_il8 dX7_fits_202 ?_
                        refine e_cv dX7_fits_204 vX7_78 (m_X7_well t.1) (by decide) rfl rfl (Nat.le_of_ble_eq_true rfl) jBud0 rfl t.1 ?_
                        rintro _ h2 ⟨rfl, t2, E2⟩
                        exact e_iret hX dX7_fits_207 (by
                          rw [show sp_fits (nI a) (nI r) (nI i) (nI n) (nI v) S = (s_fitA S.2.2.1 a n (fun d => S.1.2.2.2 r (i + d)) v, z_st S 0) by rw [sp_fits, if_pos c_5, if_pos c_12, if_pos c_23, if_pos c_33, er, if_neg c_44, if_pos (by rw [← dN r (by omega)]; exact c_61), ea, en, ev, ei]]
                          exact ⟨by rw [s_fitA, if_pos c_99], (c.tr t).st ⟨s1, s2, s8, s9⟩ t2 E2, t.hi.tr E2 (fun j q => q) (fun j q => by unfold jHi; omega)⟩) (fun z => z)
                    · exact absurd c_127 (by omega)
                  · refine e_bipush (nI 15) dX7_fits_117 (by decide) ?_
                    refine e_goto 123 dX7_fits_119 (by decide) ?_
                    refine e_is11 dX7_fits_123 rfl ?_
                    refine e_il5 dX7_fits_125 ?_
                    refine e_if_neN 134 dX7_fits_127 (by decide) (by omega) (fun c_127 => ?_) (fun c_127 => ?_)
                    · refine e_iconst (nI 0) dX7_fits_134 (by decide) ?_
                      refine e_is12 dX7_fits_135 rfl ?_
                      have eh : s_hi v = 15 := by unfold s_hi; rw [if_neg (by omega), if_pos c_114]
                      have el : s_lo v = 0 := by unfold s_lo; rw [if_neg (by omega)]
                      have r_ := lp_X7_fits1 ok (by omega) ha (n := n) (by omega) (wh := v) (by omega) d3 hT (by omega) c_99 (l2 := some (.int (nI r))) (l3 := some (.int (nI i))) (l9 := nI 0) (l10 := some (.int (-1000000))) (X := X) (fun h u l12 t => ?_) (s_hi v + 2) 0 _ _ (by omega) (by omega) t0
                      · rw [eh, el] at r_
                        exact r_
                      · skip
                        refine e_al0 dX7_fits_201 ?_
                        refine e_il8 dX7_fits_202 ?_
                        refine e_cv dX7_fits_204 vX7_78 (m_X7_well t.1) (by decide) rfl rfl (Nat.le_of_ble_eq_true rfl) jBud0 rfl t.1 ?_
                        rintro _ h2 ⟨rfl, t2, E2⟩
                        exact e_iret hX dX7_fits_207 (by
                          rw [show sp_fits (nI a) (nI r) (nI i) (nI n) (nI v) S = (s_fitA S.2.2.1 a n (fun d => S.1.2.2.2 r (i + d)) v, z_st S 0) by rw [sp_fits, if_pos c_5, if_pos c_12, if_pos c_23, if_pos c_33, er, if_neg c_44, if_pos (by rw [← dN r (by omega)]; exact c_61), ea, en, ev, ei]]
                          exact ⟨by rw [s_fitA, if_pos c_99], (c.tr t).st ⟨s1, s2, s8, s9⟩ t2 E2, t.hi.tr E2 (fun j q => q) (fun j q => by unfold jHi; omega)⟩) (fun z => z)
                    · exact absurd c_127 (by omega)
                · refine e_iconst (nI 5) dX7_fits_107 (by decide) ?_
                  refine e_goto 123 dX7_fits_108 (by decide) ?_
                  refine e_is11 dX7_fits_123 rfl ?_
                  refine e_il5 dX7_fits_125 ?_
                  refine e_if_neN 134 dX7_fits_127 (by decide) (by omega) (fun c_127 => ?_) (fun c_127 => ?_)
                  · exact absurd c_127 (by omega)
                  · refine e_iconst (nI 1) dX7_fits_130 (by decide) ?_
                    refine e_goto 135 dX7_fits_131 (by decide) ?_
                    refine e_is12 dX7_fits_135 rfl ?_
                    have eh : s_hi v = 5 := by unfold s_hi; rw [if_pos c_104]
                    have el : s_lo v = 1 := by unfold s_lo; rw [if_pos c_104]
                    have r_ := lp_X7_fits1 ok (by omega) ha (n := n) (by omega) (wh := v) (by omega) d3 hT (by omega) c_99 (l2 := some (.int (nI r))) (l3 := some (.int (nI i))) (l9 := nI 0) (l10 := some (.int (-1000000))) (X := X) (fun h u l12 t => ?_) (s_hi v + 2) 0 _ _ (by omega) (by omega) t0
                    · rw [eh, el] at r_
                      exact r_
                    · skip
                      refine e_al0 dX7_fits_201 ?_
                      refine e_il8 dX7_fits_202 ?_
                      refine e_cv dX7_fits_204 vX7_78 (m_X7_well t.1) (by decide) rfl rfl (Nat.le_of_ble_eq_true rfl) jBud0 rfl t.1 ?_
                      rintro _ h2 ⟨rfl, t2, E2⟩
                      exact e_iret hX dX7_fits_207 (by
                        rw [show sp_fits (nI a) (nI r) (nI i) (nI n) (nI v) S = (s_fitA S.2.2.1 a n (fun d => S.1.2.2.2 r (i + d)) v, z_st S 0) by rw [sp_fits, if_pos c_5, if_pos c_12, if_pos c_23, if_pos c_33, er, if_neg c_44, if_pos (by rw [← dN r (by omega)]; exact c_61), ea, en, ev, ei]]
                        exact ⟨by rw [s_fitA, if_pos c_99], (c.tr t).st ⟨s1, s2, s8, s9⟩ t2 E2, t.hi.tr E2 (fun j q => q) (fun j q => by unfold jHi; omega)⟩) (fun z => z)
            · refine e_al0 dX7_fits_64 ?_
              refine e_iconst (nI 2) dX7_fits_65 (by decide) ?_
              refine e_cv dX7_fits_66 vX7_74 (m_X7_found hO) (by decide) rfl rfl (Nat.le_of_ble_eq_true rfl) jBud0 rfl hO ?_
              rintro _ h1 ⟨rfl, t1, E1⟩
              exact e_iret hX dX7_fits_69 (by rw [sp_fits, if_pos c_5, if_pos c_12, if_pos c_23, if_pos c_33, er, if_neg c_44, if_neg (by rw [← dN r (by omega)]; exact c_61)]; exact ⟨rfl, c.st ⟨s1, s2, s8, s9⟩ t1 E1, E1.mono (fun j q => by unfold jHi; omega)⟩) (fun z => z)
          · rw [dL r (by omega), rLane_3 g1r.1] at c_44
            refine e_al0 dX7_fits_47 ?_
            refine e_iconst (nI 1) dX7_fits_48 (by decide) ?_
            refine e_cv dX7_fits_49 vX7_74 (m_X7_found hO) (by decide) rfl rfl (Nat.le_of_ble_eq_true rfl) jBud0 rfl hO ?_
            rintro _ h1 ⟨rfl, t1, E1⟩
            exact e_iret hX dX7_fits_52 (by rw [sp_fits, if_pos c_5, if_pos c_12, if_pos c_23, if_pos c_33, er, if_pos c_44]; exact ⟨rfl, c.st ⟨s1, s2, s8, s9⟩ t1 E1, E1.mono (fun j q => by unfold jHi; omega)⟩) (fun z => z)
        · refine e_ldc dX7_fits_36 kX7_73 ?_
          exact e_iret hX dX7_fits_38 (by rw [sp_fits, if_pos c_5, if_pos c_12, if_pos c_23, if_neg c_33]; exact rAns.same c rfl) (fun z => z)
