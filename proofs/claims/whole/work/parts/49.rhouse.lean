set_option maxRecDepth 100000 in
set_option maxHeartbeats 4000000 in
theorem m_X7_byteAt {h : jH} {s : Nat → Int32} {n : Nat} {B T : Nat → Nat} (hb : ∀ i, i < n → B i = T i) (hn : n ≤ 100) (hT : ∀ i, i < n → T i ≤ 255) (hO : RO h s) (F1 : s 1 = nI n) (hB : h[223]? = some (jN 100 B)) {k : Nat} (hk : k ≤ 1000) : jM yX7_byteAt cX7_byteAt 2 (some .int) 0 none [.ref 218, .int (nI k)] h (jRt (.int (if k < n then nI (T k) else -1)) h) := by
  refine jM.ofF (by decide +kernel) rfl (Nat.le_of_ble_eq_true rfl) (fun X hX hI => ?_)
  show jV cX7_byteAt RX7 0 X none 0 [some (.ref 218), some (.int (nI k))] [] h
  refine e_il1 dX7_byteAt_0 ?_
  refine e_al0 dX7_byteAt_1 ?_
  refine e_get dX7_byteAt_2 fX7_91 hO rfl ?_
  rw [F1]
  refine e_ic_geN 17 dX7_byteAt_5 (by decide) (by omega) (by omega) (fun c_5 => ?_) (fun c_5 => ?_)
  · refine e_iconst (-1) dX7_byteAt_17 (by decide) ?_
    exact e_iret hX dX7_byteAt_18 (jRt_e (if_neg (by omega)).symm) (fun z => z)
  · refine e_al0 dX7_byteAt_8 ?_
    refine e_get dX7_byteAt_9 fX7_22 hO rfl ?_
    refine e_il1 dX7_byteAt_12 ?_
    refine e_ialdN dX7_byteAt_13 hB (by omega) (by decide) ?_
    rw [hb k (by omega)]
    refine e_goto 18 dX7_byteAt_14 (by decide) ?_
    exact e_iret hX dX7_byteAt_18 (jRt_e (if_pos c_5).symm) (fun z => z)
set_option maxRecDepth 100000 in
set_option maxHeartbeats 4000000 in
theorem lp_X7_adv {h0 : jH} {s : Nat → Int32} {n : Nat} {B T : Nat → Nat} (hb : ∀ i, i < n → B i = T i) (hn : n ≤ 100) (hT : ∀ i, i < n → T i ≤ 255) (N1 : s 1 = nI n) {a : Nat} (hd0 : d_is n T a) {l1 : Option Value} {X : jX} (hX : jRet X (none) none (fun v h' => v = none ∧ rL h0 h' s n T a)) : ∀ (m j : Nat) (h : jH) (s1 : Nat → Int32), n - (a + j) < m → a + j ≤ n → (∀ i, i < j → d_is n T (a + i)) → RO h s1 → s1 0 = s 0 → s1 1 = s 1 → s1 2 = s 2 → s1 3 = s 3 → s1 8 = s 8 → s1 9 = s 9 → s1 4 = nI (a + j) → s1 5 = nI a → s1 7 = nI (s_vv T a j) → h[223]? = some (jN 100 B) → jEq h0 h (fun j => j = 218) → jV cX7_advances RX7 1 X none 38 [some (.ref 218), l1] [] h := by
  intro m
  induction m with
  | zero => intros; omega
  | succ m ih =>
    intro j h s1 hm hj hd hO F0 F1 F2 F3 F8 F9 F4 F5 F7 hB E
    have F6 : s1 6 = s1 6 := rfl
    refine e_al0 dX7_advances_38 ?_
    refine e_al0 dX7_advances_39 ?_
    refine e_get dX7_advances_40 fX7_95 hO rfl ?_
    rw [F4]
    refine e_cv dX7_advances_43 vX7_101 (m_X7_byteAt hb hn hT hO (F1.trans N1) hB (k := a + j) (by omega)) (by decide) rfl rfl (Nat.le_of_ble_eq_true rfl) jBud0 rfl hO ?_
    rintro _ _ ⟨rfl, rfl⟩
    refine e_bipush (nI 48) dX7_advances_46 (by decide) ?_
    refine e_bipush (nI 57) dX7_advances_48 (by decide) ?_
    refine e_cs dX7_advances_50 sX7_65 (m_X7_inR (by decide) (by decide)) (by decide) rfl rfl (Nat.le_of_ble_eq_true rfl) jBud0 ?_
    rintro _ _ ⟨rfl, rfl⟩
    refine e_if_eqB 112 dX7_advances_53 (by decide) (fun c_53 => ?_) (fun c_53 => ?_)
    · rw [in_d hT] at c_53
      refine e_al0 dX7_advances_112 ?_
      refine e_al0 dX7_advances_113 ?_
      refine e_get dX7_advances_114 fX7_95 hO rfl ?_
      rw [F4]
      refine e_al0 dX7_advances_117 ?_
      refine e_get dX7_advances_118 fX7_98 hO rfl ?_
      rw [F5]
      refine e_isubN dX7_advances_121 (by omega) ?_
      rw [Nat.add_sub_cancel_left]
      refine e_iconst (nI 3) dX7_advances_122 (by decide) ?_
      refine e_ic_geN 130 dX7_advances_123 (by decide) (by omega) (by omega) (fun c_123 => ?_) (fun c_123 => ?_)
      · refine e_iconst (nI 5) dX7_advances_130 (by decide) ?_
        refine e_put dX7_advances_131 fX7_107 hO (Nat.le_of_ble_eq_true rfl) (fun g => ⟨rfl, rfl⟩) ?_
        refine e_abs (fun h1 hh => ?_)
        obtain ⟨s1, hs2, hO2⟩ : ∃ t, t = upd s1 6 (nI 5) ∧ RO h1 t := ⟨_, rfl, jhs_at hh hO⟩
        replace hB := jhs hh hB (by omega)
        replace E := jEq.hs hh E rfl
        replace F0 := (congrFun hs2 0).trans ((upd_ne (by decide)).trans F0)
        replace F1 := (congrFun hs2 1).trans ((upd_ne (by decide)).trans F1)
        replace F2 := (congrFun hs2 2).trans ((upd_ne (by decide)).trans F2)
        replace F3 := (congrFun hs2 3).trans ((upd_ne (by decide)).trans F3)
        replace F4 := (congrFun hs2 4).trans ((upd_ne (by decide)).trans F4)
        replace F5 := (congrFun hs2 5).trans ((upd_ne (by decide)).trans F5)
        replace F7 := (congrFun hs2 7).trans ((upd_ne (by decide)).trans F7)
        replace F8 := (congrFun hs2 8).trans ((upd_ne (by decide)).trans F8)
        replace F9 := (congrFun hs2 9).trans ((upd_ne (by decide)).trans F9)
        replace F6 := (congrFun hs2 6).trans upd_at
        replace hO := hO2
        clear hs2 hO2 hh
        exact e_ret hX dX7_advances_134 (by
          have e5 := s_fg_big hd c_123
          exact ⟨rfl, s1, hO, ⟨F0, F1, F2, F3, F8, F9⟩, ⟨F5, by rw [F6, e5], fun z => absurd e5 z⟩, E⟩) (fun z => z)
      · refine e_iconst (nI 2) dX7_advances_126 (by decide) ?_
        refine e_goto 131 dX7_advances_127 (by decide) ?_
        refine e_put dX7_advances_131 fX7_107 hO (Nat.le_of_ble_eq_true rfl) (fun g => ⟨rfl, rfl⟩) ?_
        refine e_abs (fun h1 hh => ?_)
        obtain ⟨s1, hs2, hO2⟩ : ∃ t, t = upd s1 6 (nI 2) ∧ RO h1 t := ⟨_, rfl, jhs_at hh hO⟩
        replace hB := jhs hh hB (by omega)
        replace E := jEq.hs hh E rfl
        replace F0 := (congrFun hs2 0).trans ((upd_ne (by decide)).trans F0)
        replace F1 := (congrFun hs2 1).trans ((upd_ne (by decide)).trans F1)
        replace F2 := (congrFun hs2 2).trans ((upd_ne (by decide)).trans F2)
        replace F3 := (congrFun hs2 3).trans ((upd_ne (by decide)).trans F3)
        replace F4 := (congrFun hs2 4).trans ((upd_ne (by decide)).trans F4)
        replace F5 := (congrFun hs2 5).trans ((upd_ne (by decide)).trans F5)
        replace F7 := (congrFun hs2 7).trans ((upd_ne (by decide)).trans F7)
        replace F8 := (congrFun hs2 8).trans ((upd_ne (by decide)).trans F8)
        replace F9 := (congrFun hs2 9).trans ((upd_ne (by decide)).trans F9)
        replace F6 := (congrFun hs2 6).trans upd_at
        replace hO := hO2
        clear hs2 hO2 hh
        exact e_ret hX dX7_advances_134 (by
          have j1 : 0 < j := Nat.pos_of_ne_zero (fun z => c_53 (by rw [z]; exact hd0))
          have hf : s_fg n T a j := ⟨hd, by omega, Or.inr c_53⟩
          have fi := (s_fg_is hf).mpr ⟨j1, c_123⟩
          have fv := s_fg_v hf j1 c_123
          exact ⟨rfl, s1, hO, ⟨F0, F1, F2, F3, F8, F9⟩, ⟨F5, by rw [F6, tk_2.mpr fi], fun _ => ⟨by rw [F7, vl_n fi, fv.1, s_vv, show min j 2 = j by omega], by rw [F4, nx_n fi, fv.2]⟩⟩, E⟩) (fun z => z)
    · rw [in_d hT] at c_53
      have ti := hT (a + j) c_53.1
      refine e_al0 dX7_advances_56 ?_
      refine e_al0 dX7_advances_57 ?_
      refine e_get dX7_advances_58 fX7_95 hO rfl ?_
      rw [F4]
      refine e_al0 dX7_advances_61 ?_
      refine e_get dX7_advances_62 fX7_98 hO rfl ?_
      rw [F5]
      refine e_isubN dX7_advances_65 (by omega) ?_
      rw [Nat.add_sub_cancel_left]
      refine e_iconst (nI 2) dX7_advances_66 (by decide) ?_
      refine e_ic_geN 92 dX7_advances_67 (by decide) (by omega) (by omega) (fun c_67 => ?_) (fun c_67 => ?_)
      · refine e_al0 dX7_advances_92 ?_
        refine e_get dX7_advances_93 fX7_104 hO rfl ?_
        rw [F7]
        refine e_top (show nI (s_vv T a j) = nI (s_vv T a (j + 1)) by rw [s_vv_e c_67]) ?_
        refine e_put dX7_advances_96 fX7_104 hO (Nat.le_of_ble_eq_true rfl) (fun g => ⟨rfl, rfl⟩) ?_
        refine e_abs (fun h1 hh => ?_)
        obtain ⟨s1, hs2, hO2⟩ : ∃ t, t = upd s1 7 (nI (s_vv T a (j + 1))) ∧ RO h1 t := ⟨_, rfl, jhs_at hh hO⟩
        replace hB := jhs hh hB (by omega)
        replace E := jEq.hs hh E rfl
        replace F0 := (congrFun hs2 0).trans ((upd_ne (by decide)).trans F0)
        replace F1 := (congrFun hs2 1).trans ((upd_ne (by decide)).trans F1)
        replace F2 := (congrFun hs2 2).trans ((upd_ne (by decide)).trans F2)
        replace F3 := (congrFun hs2 3).trans ((upd_ne (by decide)).trans F3)
        replace F4 := (congrFun hs2 4).trans ((upd_ne (by decide)).trans F4)
        replace F5 := (congrFun hs2 5).trans ((upd_ne (by decide)).trans F5)
        replace F6 := (congrFun hs2 6).trans ((upd_ne (by decide)).trans F6)
        replace F8 := (congrFun hs2 8).trans ((upd_ne (by decide)).trans F8)
        replace F9 := (congrFun hs2 9).trans ((upd_ne (by decide)).trans F9)
        replace F7 := (congrFun hs2 7).trans upd_at
        replace hO := hO2
        clear hs2 hO2 hh
        refine e_al0 dX7_advances_99 ?_
        refine e_dup dX7_advances_100 rfl ?_
        refine e_get dX7_advances_101 fX7_95 hO rfl ?_
        rw [F4]
        refine e_iconst (nI 1) dX7_advances_104 (by decide) ?_
        refine e_iaddN dX7_advances_105 ?_
        refine e_put dX7_advances_106 fX7_95 hO (Nat.le_of_ble_eq_true rfl) (fun g => ⟨rfl, rfl⟩) ?_
        refine e_abs (fun h1 hh => ?_)
        obtain ⟨s1, hs2, hO2⟩ : ∃ t, t = upd s1 4 (nI (a + j + 1)) ∧ RO h1 t := ⟨_, rfl, jhs_at hh hO⟩
        replace hB := jhs hh hB (by omega)
        replace E := jEq.hs hh E rfl
        replace F0 := (congrFun hs2 0).trans ((upd_ne (by decide)).trans F0)
        replace F1 := (congrFun hs2 1).trans ((upd_ne (by decide)).trans F1)
        replace F2 := (congrFun hs2 2).trans ((upd_ne (by decide)).trans F2)
        replace F3 := (congrFun hs2 3).trans ((upd_ne (by decide)).trans F3)
        replace F5 := (congrFun hs2 5).trans ((upd_ne (by decide)).trans F5)
        replace F6 := (congrFun hs2 6).trans ((upd_ne (by decide)).trans F6)
        replace F7 := (congrFun hs2 7).trans ((upd_ne (by decide)).trans F7)
        replace F8 := (congrFun hs2 8).trans ((upd_ne (by decide)).trans F8)
        replace F9 := (congrFun hs2 9).trans ((upd_ne (by decide)).trans F9)
        replace F4 := (congrFun hs2 4).trans upd_at
        replace hO := hO2
        clear hs2 hO2 hh
        refine e_goto 38 dX7_advances_109 (by decide) ?_
        exact ih (j + 1) _ s1 (by have := c_53.1; omega) (by have := c_53.1; omega) (fun i hi => by
          by_cases e : i = j
          · rw [e]; exact c_53
          · exact hd i (by omega)) hO F0 F1 F2 F3 F8 F9 F4 F5 F7 hB E
      · refine e_bipush (nI 10) dX7_advances_70 (by decide) ?_
        refine e_al0 dX7_advances_72 ?_
        refine e_get dX7_advances_73 fX7_104 hO rfl ?_
        rw [F7]
        refine e_imulN dX7_advances_76 ?_
        refine e_al0 dX7_advances_77 ?_
        refine e_al0 dX7_advances_78 ?_
        refine e_get dX7_advances_79 fX7_95 hO rfl ?_
        rw [F4]
        refine e_cv dX7_advances_82 vX7_101 (m_X7_byteAt hb hn hT hO (F1.trans N1) hB (k := a + j) (by omega)) (by decide) rfl rfl (Nat.le_of_ble_eq_true rfl) jBud0 rfl hO ?_
        rintro _ _ ⟨rfl, rfl⟩
        rw [if_pos c_53.1]
        refine e_iaddN dX7_advances_85 ?_
        refine e_bipush (nI 48) dX7_advances_86 (by decide) ?_
        refine e_isubN dX7_advances_88 (by omega) ?_
        refine e_goto 96 dX7_advances_89 (by decide) ?_
        refine e_top (show nI (10 * s_vv T a j + T (a + j) - 48) = nI (s_vv T a (j + 1)) by rw [s_vv_s c_67]) ?_
        refine e_put dX7_advances_96 fX7_104 hO (Nat.le_of_ble_eq_true rfl) (fun g => ⟨rfl, rfl⟩) ?_
        refine e_abs (fun h1 hh => ?_)
        obtain ⟨s1, hs2, hO2⟩ : ∃ t, t = upd s1 7 (nI (s_vv T a (j + 1))) ∧ RO h1 t := ⟨_, rfl, jhs_at hh hO⟩
        replace hB := jhs hh hB (by omega)
        replace E := jEq.hs hh E rfl
        replace F0 := (congrFun hs2 0).trans ((upd_ne (by decide)).trans F0)
        replace F1 := (congrFun hs2 1).trans ((upd_ne (by decide)).trans F1)
        replace F2 := (congrFun hs2 2).trans ((upd_ne (by decide)).trans F2)
        replace F3 := (congrFun hs2 3).trans ((upd_ne (by decide)).trans F3)
        replace F4 := (congrFun hs2 4).trans ((upd_ne (by decide)).trans F4)
        replace F5 := (congrFun hs2 5).trans ((upd_ne (by decide)).trans F5)
        replace F6 := (congrFun hs2 6).trans ((upd_ne (by decide)).trans F6)
        replace F8 := (congrFun hs2 8).trans ((upd_ne (by decide)).trans F8)
        replace F9 := (congrFun hs2 9).trans ((upd_ne (by decide)).trans F9)
        replace F7 := (congrFun hs2 7).trans upd_at
        replace hO := hO2
        clear hs2 hO2 hh
        refine e_al0 dX7_advances_99 ?_
        refine e_dup dX7_advances_100 rfl ?_
        refine e_get dX7_advances_101 fX7_95 hO rfl ?_
        rw [F4]
        refine e_iconst (nI 1) dX7_advances_104 (by decide) ?_
        refine e_iaddN dX7_advances_105 ?_
        refine e_put dX7_advances_106 fX7_95 hO (Nat.le_of_ble_eq_true rfl) (fun g => ⟨rfl, rfl⟩) ?_
        refine e_abs (fun h1 hh => ?_)
        obtain ⟨s1, hs2, hO2⟩ : ∃ t, t = upd s1 4 (nI (a + j + 1)) ∧ RO h1 t := ⟨_, rfl, jhs_at hh hO⟩
        replace hB := jhs hh hB (by omega)
        replace E := jEq.hs hh E rfl
        replace F0 := (congrFun hs2 0).trans ((upd_ne (by decide)).trans F0)
        replace F1 := (congrFun hs2 1).trans ((upd_ne (by decide)).trans F1)
        replace F2 := (congrFun hs2 2).trans ((upd_ne (by decide)).trans F2)
        replace F3 := (congrFun hs2 3).trans ((upd_ne (by decide)).trans F3)
        replace F5 := (congrFun hs2 5).trans ((upd_ne (by decide)).trans F5)
        replace F6 := (congrFun hs2 6).trans ((upd_ne (by decide)).trans F6)
        replace F7 := (congrFun hs2 7).trans ((upd_ne (by decide)).trans F7)
        replace F8 := (congrFun hs2 8).trans ((upd_ne (by decide)).trans F8)
        replace F9 := (congrFun hs2 9).trans ((upd_ne (by decide)).trans F9)
        replace F4 := (congrFun hs2 4).trans upd_at
        replace hO := hO2
        clear hs2 hO2 hh
        refine e_goto 38 dX7_advances_109 (by decide) ?_
        exact ih (j + 1) _ s1 (by have := c_53.1; omega) (by have := c_53.1; omega) (fun i hi => by
          by_cases e : i = j
          · rw [e]; exact c_53
          · exact hd i (by omega)) hO F0 F1 F2 F3 F8 F9 F4 F5 F7 hB E
set_option maxRecDepth 100000 in
set_option maxHeartbeats 4000000 in
theorem m_X7_advances {h : jH} {s : Nat → Int32} {n : Nat} {B T : Nat → Nat} (hb : ∀ i, i < n → B i = T i) (hn : n ≤ 100) (hT : ∀ i, i < n → T i ≤ 255) (hO : RO h s) (N1 : s 1 = nI n) {a : Nat} (N4 : s 4 = nI a) (ha : a ≤ n) (hB : h[223]? = some (jN 100 B)) : jM yX7_advances cX7_advances 2 (none : Option Jvm.ClassFile.FieldType) 1 none [.ref 218] h (fun v h' => v = none ∧ rL h h' s n T a) := by
  obtain ⟨s1, hs1⟩ : ∃ t, t = s := ⟨_, rfl⟩
  rw [← hs1] at hO
  have F0 : s1 0 = s 0 := by rw [hs1]
  have F1 : s1 1 = s 1 := by rw [hs1]
  have F2 : s1 2 = s 2 := by rw [hs1]
  have F3 : s1 3 = s 3 := by rw [hs1]
  have F4 : s1 4 = nI a := by rw [hs1]; exact N4
  have F5 : s1 5 = s 5 := by rw [hs1]
  have F6 : s1 6 = s 6 := by rw [hs1]
  have F7 : s1 7 = s 7 := by rw [hs1]
  have F8 : s1 8 = s 8 := by rw [hs1]
  have F9 : s1 9 = s 9 := by rw [hs1]
  have E : jEq h h (fun j => j = 218) := jEq.rf
  refine jM.ofF (by decide +kernel) rfl (Nat.le_of_ble_eq_true rfl) (fun X hX hI => ?_)
  show jV cX7_advances RX7 1 X none 0 [some (.ref 218), none] [] h
  refine e_al0 dX7_advances_0 ?_
  refine e_al0 dX7_advances_1 ?_
  refine e_get dX7_advances_2 fX7_95 hO rfl ?_
  rw [F4]
  refine e_put dX7_advances_5 fX7_98 hO (Nat.le_of_ble_eq_true rfl) (fun g => ⟨rfl, rfl⟩) ?_
  refine e_abs (fun h1 hh => ?_)
  obtain ⟨s1, hs2, hO2⟩ : ∃ t, t = upd s1 5 (nI a) ∧ RO h1 t := ⟨_, rfl, jhs_at hh hO⟩
  replace hB := jhs hh hB (by omega)
  replace E := jEq.hs hh E rfl
  replace F0 := (congrFun hs2 0).trans ((upd_ne (by decide)).trans F0)
  replace F1 := (congrFun hs2 1).trans ((upd_ne (by decide)).trans F1)
  replace F2 := (congrFun hs2 2).trans ((upd_ne (by decide)).trans F2)
  replace F3 := (congrFun hs2 3).trans ((upd_ne (by decide)).trans F3)
  replace F4 := (congrFun hs2 4).trans ((upd_ne (by decide)).trans F4)
  replace F6 := (congrFun hs2 6).trans ((upd_ne (by decide)).trans F6)
  replace F7 := (congrFun hs2 7).trans ((upd_ne (by decide)).trans F7)
  replace F8 := (congrFun hs2 8).trans ((upd_ne (by decide)).trans F8)
  replace F9 := (congrFun hs2 9).trans ((upd_ne (by decide)).trans F9)
  replace F5 := (congrFun hs2 5).trans upd_at
  replace hO := hO2
  clear hs2 hO2 hh
  refine e_al0 dX7_advances_8 ?_
  refine e_al0 dX7_advances_9 ?_
  refine e_get dX7_advances_10 fX7_95 hO rfl ?_
  rw [F4]
  refine e_cv dX7_advances_13 vX7_101 (m_X7_byteAt hb hn hT hO (F1.trans N1) hB (k := a) (by omega)) (by decide) rfl rfl (Nat.le_of_ble_eq_true rfl) jBud0 rfl hO ?_
  rintro _ _ ⟨rfl, rfl⟩
  refine e_is1 dX7_advances_16 rfl ?_
  refine e_al0 dX7_advances_17 ?_
  refine e_il1 dX7_advances_18 ?_
  refine e_put dX7_advances_19 fX7_104 hO (Nat.le_of_ble_eq_true rfl) (fun g => ⟨rfl, rfl⟩) ?_
  refine e_abs (fun h1 hh => ?_)
  obtain ⟨s1, hs2, hO2⟩ : ∃ t, t = upd s1 7 ((if a < n then nI (T a) else -1)) ∧ RO h1 t := ⟨_, rfl, jhs_at hh hO⟩
  replace hB := jhs hh hB (by omega)
  replace E := jEq.hs hh E rfl
  replace F0 := (congrFun hs2 0).trans ((upd_ne (by decide)).trans F0)
  replace F1 := (congrFun hs2 1).trans ((upd_ne (by decide)).trans F1)
  replace F2 := (congrFun hs2 2).trans ((upd_ne (by decide)).trans F2)
  replace F3 := (congrFun hs2 3).trans ((upd_ne (by decide)).trans F3)
  replace F4 := (congrFun hs2 4).trans ((upd_ne (by decide)).trans F4)
  replace F5 := (congrFun hs2 5).trans ((upd_ne (by decide)).trans F5)
  replace F6 := (congrFun hs2 6).trans ((upd_ne (by decide)).trans F6)
  replace F8 := (congrFun hs2 8).trans ((upd_ne (by decide)).trans F8)
  replace F9 := (congrFun hs2 9).trans ((upd_ne (by decide)).trans F9)
  replace F7 := (congrFun hs2 7).trans upd_at
  replace hO := hO2
  clear hs2 hO2 hh
  refine e_il1 dX7_advances_22 ?_
  refine e_bipush (nI 48) dX7_advances_23 (by decide) ?_
  refine e_bipush (nI 57) dX7_advances_25 (by decide) ?_
  refine e_cs dX7_advances_27 sX7_65 (m_X7_inR (by decide) (by decide)) (by decide) rfl rfl (Nat.le_of_ble_eq_true rfl) jBud0 ?_
  rintro _ _ ⟨rfl, rfl⟩
  refine e_if_eqB 135 dX7_advances_30 (by decide) (fun c_30 => ?_) (fun c_30 => ?_)
  · rw [in_d hT] at c_30
    by_cases hn2 : a < n
    · have ti := hT a hn2
      rw [if_pos hn2] at F7 ⊢
      refine e_al0 dX7_advances_135 ?_
      refine e_il1 dX7_advances_136 ?_
      refine e_if_geN 144 dX7_advances_137 (by decide) (by omega) ?_
      refine e_il1 dX7_advances_144 ?_
      refine e_bipush (nI 97) dX7_advances_145 (by decide) ?_
      refine e_bipush (nI 122) dX7_advances_147 (by decide) ?_
      refine e_cs dX7_advances_149 sX7_65 (m_X7_inR (by decide) (by decide)) (by decide) rfl rfl (Nat.le_of_ble_eq_true rfl) jBud0 ?_
      rintro _ _ ⟨rfl, rfl⟩
      refine e_if_eqB 159 dX7_advances_152 (by decide) (fun c_152 => ?_) (fun c_152 => ?_)
      · rw [iR_nI (by omega)] at c_152
        refine e_il1 dX7_advances_159 ?_
        refine e_bipush (nI 44) dX7_advances_160 (by decide) ?_
        refine e_ic_neN 169 dX7_advances_162 (by decide) (by omega) (by omega) (fun c_162 => ?_) (fun c_162 => ?_)
        · refine e_il1 dX7_advances_169 ?_
          refine e_bipush (nI 59) dX7_advances_170 (by decide) ?_
          refine e_ic_neN 179 dX7_advances_172 (by decide) (by omega) (by omega) (fun c_172 => ?_) (fun c_172 => ?_)
          · refine e_iconst (nI 5) dX7_advances_179 (by decide) ?_
            refine e_put dX7_advances_180 fX7_107 hO (Nat.le_of_ble_eq_true rfl) (fun g => ⟨rfl, rfl⟩) ?_
            refine e_abs (fun h1 hh => ?_)
            obtain ⟨s1, hs2, hO2⟩ : ∃ t, t = upd s1 6 (nI 5) ∧ RO h1 t := ⟨_, rfl, jhs_at hh hO⟩
            replace hB := jhs hh hB (by omega)
            replace E := jEq.hs hh E rfl
            replace F0 := (congrFun hs2 0).trans ((upd_ne (by decide)).trans F0)
            replace F1 := (congrFun hs2 1).trans ((upd_ne (by decide)).trans F1)
            replace F2 := (congrFun hs2 2).trans ((upd_ne (by decide)).trans F2)
            replace F3 := (congrFun hs2 3).trans ((upd_ne (by decide)).trans F3)
            replace F4 := (congrFun hs2 4).trans ((upd_ne (by decide)).trans F4)
            replace F5 := (congrFun hs2 5).trans ((upd_ne (by decide)).trans F5)
            replace F7 := (congrFun hs2 7).trans ((upd_ne (by decide)).trans F7)
            replace F8 := (congrFun hs2 8).trans ((upd_ne (by decide)).trans F8)
            replace F9 := (congrFun hs2 9).trans ((upd_ne (by decide)).trans F9)
            replace F6 := (congrFun hs2 6).trans upd_at
            replace hO := hO2
            clear hs2 hO2 hh
            refine e_al0 dX7_advances_183 ?_
            refine e_dup dX7_advances_184 rfl ?_
            refine e_get dX7_advances_185 fX7_95 hO rfl ?_
            rw [F4]
            refine e_al0 dX7_advances_188 ?_
            refine e_get dX7_advances_189 fX7_107 hO rfl ?_
            rw [F6]
            refine e_if_neN 199 dX7_advances_192 (by decide) (by omega) (fun c_192 => ?_) (fun c_192 => ?_)
            · refine e_iconst (nI 1) dX7_advances_199 (by decide) ?_
              refine e_iaddN dX7_advances_200 ?_
              refine e_put dX7_advances_201 fX7_95 hO (Nat.le_of_ble_eq_true rfl) (fun g => ⟨rfl, rfl⟩) ?_
              refine e_abs (fun h1 hh => ?_)
              obtain ⟨s1, hs2, hO2⟩ : ∃ t, t = upd s1 4 (nI (a + 1)) ∧ RO h1 t := ⟨_, rfl, jhs_at hh hO⟩
              replace hB := jhs hh hB (by omega)
              replace E := jEq.hs hh E rfl
              replace F0 := (congrFun hs2 0).trans ((upd_ne (by decide)).trans F0)
              replace F1 := (congrFun hs2 1).trans ((upd_ne (by decide)).trans F1)
              replace F2 := (congrFun hs2 2).trans ((upd_ne (by decide)).trans F2)
              replace F3 := (congrFun hs2 3).trans ((upd_ne (by decide)).trans F3)
              replace F5 := (congrFun hs2 5).trans ((upd_ne (by decide)).trans F5)
              replace F6 := (congrFun hs2 6).trans ((upd_ne (by decide)).trans F6)
              replace F7 := (congrFun hs2 7).trans ((upd_ne (by decide)).trans F7)
              replace F8 := (congrFun hs2 8).trans ((upd_ne (by decide)).trans F8)
              replace F9 := (congrFun hs2 9).trans ((upd_ne (by decide)).trans F9)
              replace F4 := (congrFun hs2 4).trans upd_at
              replace hO := hO2
              clear hs2 hO2 hh
              exact e_ret hX dX7_advances_204 (by
                have e5 : tk n T a = 5 := by rw [tk, if_pos hn2, if_neg c_30, if_neg c_152, if_neg c_162, if_neg c_172]
                exact ⟨rfl, s1, hO, ⟨F0, F1, F2, F3, F8, F9⟩, ⟨F5, by rw [F6, e5], fun z => absurd e5 z⟩, E⟩) (fun z => z)
            · exact absurd c_192 (by omega)
          · refine e_iconst (nI 4) dX7_advances_175 (by decide) ?_
            refine e_goto 180 dX7_advances_176 (by decide) ?_
            refine e_put dX7_advances_180 fX7_107 hO (Nat.le_of_ble_eq_true rfl) (fun g => ⟨rfl, rfl⟩) ?_
            refine e_abs (fun h1 hh => ?_)
            obtain ⟨s1, hs2, hO2⟩ : ∃ t, t = upd s1 6 (nI 4) ∧ RO h1 t := ⟨_, rfl, jhs_at hh hO⟩
            replace hB := jhs hh hB (by omega)
            replace E := jEq.hs hh E rfl
            replace F0 := (congrFun hs2 0).trans ((upd_ne (by decide)).trans F0)
            replace F1 := (congrFun hs2 1).trans ((upd_ne (by decide)).trans F1)
            replace F2 := (congrFun hs2 2).trans ((upd_ne (by decide)).trans F2)
            replace F3 := (congrFun hs2 3).trans ((upd_ne (by decide)).trans F3)
            replace F4 := (congrFun hs2 4).trans ((upd_ne (by decide)).trans F4)
            replace F5 := (congrFun hs2 5).trans ((upd_ne (by decide)).trans F5)
            replace F7 := (congrFun hs2 7).trans ((upd_ne (by decide)).trans F7)
            replace F8 := (congrFun hs2 8).trans ((upd_ne (by decide)).trans F8)
            replace F9 := (congrFun hs2 9).trans ((upd_ne (by decide)).trans F9)
            replace F6 := (congrFun hs2 6).trans upd_at
            replace hO := hO2
            clear hs2 hO2 hh
            refine e_al0 dX7_advances_183 ?_
            refine e_dup dX7_advances_184 rfl ?_
            refine e_get dX7_advances_185 fX7_95 hO rfl ?_
            rw [F4]
            refine e_al0 dX7_advances_188 ?_
            refine e_get dX7_advances_189 fX7_107 hO rfl ?_
            rw [F6]
            refine e_if_neN 199 dX7_advances_192 (by decide) (by omega) (fun c_192 => ?_) (fun c_192 => ?_)
            · refine e_iconst (nI 1) dX7_advances_199 (by decide) ?_
              refine e_iaddN dX7_advances_200 ?_
              refine e_put dX7_advances_201 fX7_95 hO (Nat.le_of_ble_eq_true rfl) (fun g => ⟨rfl, rfl⟩) ?_
              refine e_abs (fun h1 hh => ?_)
              obtain ⟨s1, hs2, hO2⟩ : ∃ t, t = upd s1 4 (nI (a + 1)) ∧ RO h1 t := ⟨_, rfl, jhs_at hh hO⟩
              replace hB := jhs hh hB (by omega)
              replace E := jEq.hs hh E rfl
              replace F0 := (congrFun hs2 0).trans ((upd_ne (by decide)).trans F0)
              replace F1 := (congrFun hs2 1).trans ((upd_ne (by decide)).trans F1)
              replace F2 := (congrFun hs2 2).trans ((upd_ne (by decide)).trans F2)
              replace F3 := (congrFun hs2 3).trans ((upd_ne (by decide)).trans F3)
              replace F5 := (congrFun hs2 5).trans ((upd_ne (by decide)).trans F5)
              replace F6 := (congrFun hs2 6).trans ((upd_ne (by decide)).trans F6)
              replace F7 := (congrFun hs2 7).trans ((upd_ne (by decide)).trans F7)
              replace F8 := (congrFun hs2 8).trans ((upd_ne (by decide)).trans F8)
              replace F9 := (congrFun hs2 9).trans ((upd_ne (by decide)).trans F9)
              replace F4 := (congrFun hs2 4).trans upd_at
              replace hO := hO2
              clear hs2 hO2 hh
              exact e_ret hX dX7_advances_204 (⟨rfl, s1, hO, ⟨F0, F1, F2, F3, F8, F9⟩, ⟨F5, by rw [F6, (tk_b (Or.inr ⟨rfl, rfl⟩)).mpr ⟨hn2, c_172⟩], fun _ => ⟨by rw [F7, vl_b c_30 hn2], by rw [F4, nx_b c_30 hn2]⟩⟩, E⟩) (fun z => z)
            · exact absurd c_192 (by omega)
        · refine e_iconst (nI 3) dX7_advances_165 (by decide) ?_
          refine e_goto 180 dX7_advances_166 (by decide) ?_
          refine e_put dX7_advances_180 fX7_107 hO (Nat.le_of_ble_eq_true rfl) (fun g => ⟨rfl, rfl⟩) ?_
          refine e_abs (fun h1 hh => ?_)
          obtain ⟨s1, hs2, hO2⟩ : ∃ t, t = upd s1 6 (nI 3) ∧ RO h1 t := ⟨_, rfl, jhs_at hh hO⟩
          replace hB := jhs hh hB (by omega)
          replace E := jEq.hs hh E rfl
          replace F0 := (congrFun hs2 0).trans ((upd_ne (by decide)).trans F0)
          replace F1 := (congrFun hs2 1).trans ((upd_ne (by decide)).trans F1)
          replace F2 := (congrFun hs2 2).trans ((upd_ne (by decide)).trans F2)
          replace F3 := (congrFun hs2 3).trans ((upd_ne (by decide)).trans F3)
          replace F4 := (congrFun hs2 4).trans ((upd_ne (by decide)).trans F4)
          replace F5 := (congrFun hs2 5).trans ((upd_ne (by decide)).trans F5)
          replace F7 := (congrFun hs2 7).trans ((upd_ne (by decide)).trans F7)
          replace F8 := (congrFun hs2 8).trans ((upd_ne (by decide)).trans F8)
          replace F9 := (congrFun hs2 9).trans ((upd_ne (by decide)).trans F9)
          replace F6 := (congrFun hs2 6).trans upd_at
          replace hO := hO2
          clear hs2 hO2 hh
          refine e_al0 dX7_advances_183 ?_
          refine e_dup dX7_advances_184 rfl ?_
          refine e_get dX7_advances_185 fX7_95 hO rfl ?_
          rw [F4]
          refine e_al0 dX7_advances_188 ?_
          refine e_get dX7_advances_189 fX7_107 hO rfl ?_
          rw [F6]
          refine e_if_neN 199 dX7_advances_192 (by decide) (by omega) (fun c_192 => ?_) (fun c_192 => ?_)
          · refine e_iconst (nI 1) dX7_advances_199 (by decide) ?_
            refine e_iaddN dX7_advances_200 ?_
            refine e_put dX7_advances_201 fX7_95 hO (Nat.le_of_ble_eq_true rfl) (fun g => ⟨rfl, rfl⟩) ?_
            refine e_abs (fun h1 hh => ?_)
            obtain ⟨s1, hs2, hO2⟩ : ∃ t, t = upd s1 4 (nI (a + 1)) ∧ RO h1 t := ⟨_, rfl, jhs_at hh hO⟩
            replace hB := jhs hh hB (by omega)
            replace E := jEq.hs hh E rfl
            replace F0 := (congrFun hs2 0).trans ((upd_ne (by decide)).trans F0)
            replace F1 := (congrFun hs2 1).trans ((upd_ne (by decide)).trans F1)
            replace F2 := (congrFun hs2 2).trans ((upd_ne (by decide)).trans F2)
            replace F3 := (congrFun hs2 3).trans ((upd_ne (by decide)).trans F3)
            replace F5 := (congrFun hs2 5).trans ((upd_ne (by decide)).trans F5)
            replace F6 := (congrFun hs2 6).trans ((upd_ne (by decide)).trans F6)
            replace F7 := (congrFun hs2 7).trans ((upd_ne (by decide)).trans F7)
            replace F8 := (congrFun hs2 8).trans ((upd_ne (by decide)).trans F8)
            replace F9 := (congrFun hs2 9).trans ((upd_ne (by decide)).trans F9)
            replace F4 := (congrFun hs2 4).trans upd_at
            replace hO := hO2
            clear hs2 hO2 hh
            exact e_ret hX dX7_advances_204 (⟨rfl, s1, hO, ⟨F0, F1, F2, F3, F8, F9⟩, ⟨F5, by rw [F6, (tk_b (Or.inl ⟨rfl, rfl⟩)).mpr ⟨hn2, c_162⟩], fun _ => ⟨by rw [F7, vl_b c_30 hn2], by rw [F4, nx_b c_30 hn2]⟩⟩, E⟩) (fun z => z)
          · exact absurd c_192 (by omega)
      · rw [iR_nI (by omega)] at c_152
        refine e_iconst (nI 1) dX7_advances_155 (by decide) ?_
        refine e_goto 180 dX7_advances_156 (by decide) ?_
        refine e_put dX7_advances_180 fX7_107 hO (Nat.le_of_ble_eq_true rfl) (fun g => ⟨rfl, rfl⟩) ?_
        refine e_abs (fun h1 hh => ?_)
        obtain ⟨s1, hs2, hO2⟩ : ∃ t, t = upd s1 6 (nI 1) ∧ RO h1 t := ⟨_, rfl, jhs_at hh hO⟩
        replace hB := jhs hh hB (by omega)
        replace E := jEq.hs hh E rfl
        replace F0 := (congrFun hs2 0).trans ((upd_ne (by decide)).trans F0)
        replace F1 := (congrFun hs2 1).trans ((upd_ne (by decide)).trans F1)
        replace F2 := (congrFun hs2 2).trans ((upd_ne (by decide)).trans F2)
        replace F3 := (congrFun hs2 3).trans ((upd_ne (by decide)).trans F3)
        replace F4 := (congrFun hs2 4).trans ((upd_ne (by decide)).trans F4)
        replace F5 := (congrFun hs2 5).trans ((upd_ne (by decide)).trans F5)
        replace F7 := (congrFun hs2 7).trans ((upd_ne (by decide)).trans F7)
        replace F8 := (congrFun hs2 8).trans ((upd_ne (by decide)).trans F8)
        replace F9 := (congrFun hs2 9).trans ((upd_ne (by decide)).trans F9)
        replace F6 := (congrFun hs2 6).trans upd_at
        replace hO := hO2
        clear hs2 hO2 hh
        refine e_al0 dX7_advances_183 ?_
        refine e_dup dX7_advances_184 rfl ?_
        refine e_get dX7_advances_185 fX7_95 hO rfl ?_
        rw [F4]
        refine e_al0 dX7_advances_188 ?_
        refine e_get dX7_advances_189 fX7_107 hO rfl ?_
        rw [F6]
        refine e_if_neN 199 dX7_advances_192 (by decide) (by omega) (fun c_192 => ?_) (fun c_192 => ?_)
        · refine e_iconst (nI 1) dX7_advances_199 (by decide) ?_
          refine e_iaddN dX7_advances_200 ?_
          refine e_put dX7_advances_201 fX7_95 hO (Nat.le_of_ble_eq_true rfl) (fun g => ⟨rfl, rfl⟩) ?_
          refine e_abs (fun h1 hh => ?_)
          obtain ⟨s1, hs2, hO2⟩ : ∃ t, t = upd s1 4 (nI (a + 1)) ∧ RO h1 t := ⟨_, rfl, jhs_at hh hO⟩
          replace hB := jhs hh hB (by omega)
          replace E := jEq.hs hh E rfl
          replace F0 := (congrFun hs2 0).trans ((upd_ne (by decide)).trans F0)
          replace F1 := (congrFun hs2 1).trans ((upd_ne (by decide)).trans F1)
          replace F2 := (congrFun hs2 2).trans ((upd_ne (by decide)).trans F2)
          replace F3 := (congrFun hs2 3).trans ((upd_ne (by decide)).trans F3)
          replace F5 := (congrFun hs2 5).trans ((upd_ne (by decide)).trans F5)
          replace F6 := (congrFun hs2 6).trans ((upd_ne (by decide)).trans F6)
          replace F7 := (congrFun hs2 7).trans ((upd_ne (by decide)).trans F7)
          replace F8 := (congrFun hs2 8).trans ((upd_ne (by decide)).trans F8)
          replace F9 := (congrFun hs2 9).trans ((upd_ne (by decide)).trans F9)
          replace F4 := (congrFun hs2 4).trans upd_at
          replace hO := hO2
          clear hs2 hO2 hh
          exact e_ret hX dX7_advances_204 (⟨rfl, s1, hO, ⟨F0, F1, F2, F3, F8, F9⟩, ⟨F5, by rw [F6, tk_l.mpr ⟨hn2, c_152⟩], fun _ => ⟨by rw [F7, vl_b c_30 hn2], by rw [F4, nx_b c_30 hn2]⟩⟩, E⟩) (fun z => z)
        · exact absurd c_192 (by omega)
    · rw [if_neg hn2] at F7 ⊢
      refine e_al0 dX7_advances_135 ?_
      refine e_il1 dX7_advances_136 ?_
      refine e_if_ge 144 dX7_advances_137 (by decide) (fun c_137 => ?_) (fun c_137 => ?_)
      · exact absurd c_137 (by decide)
      · refine e_iconst (nI 0) dX7_advances_140 (by decide) ?_
        refine e_goto 180 dX7_advances_141 (by decide) ?_
        refine e_put dX7_advances_180 fX7_107 hO (Nat.le_of_ble_eq_true rfl) (fun g => ⟨rfl, rfl⟩) ?_
        refine e_abs (fun h1 hh => ?_)
        obtain ⟨s1, hs2, hO2⟩ : ∃ t, t = upd s1 6 (nI 0) ∧ RO h1 t := ⟨_, rfl, jhs_at hh hO⟩
        replace hB := jhs hh hB (by omega)
        replace E := jEq.hs hh E rfl
        replace F0 := (congrFun hs2 0).trans ((upd_ne (by decide)).trans F0)
        replace F1 := (congrFun hs2 1).trans ((upd_ne (by decide)).trans F1)
        replace F2 := (congrFun hs2 2).trans ((upd_ne (by decide)).trans F2)
        replace F3 := (congrFun hs2 3).trans ((upd_ne (by decide)).trans F3)
        replace F4 := (congrFun hs2 4).trans ((upd_ne (by decide)).trans F4)
        replace F5 := (congrFun hs2 5).trans ((upd_ne (by decide)).trans F5)
        replace F7 := (congrFun hs2 7).trans ((upd_ne (by decide)).trans F7)
        replace F8 := (congrFun hs2 8).trans ((upd_ne (by decide)).trans F8)
        replace F9 := (congrFun hs2 9).trans ((upd_ne (by decide)).trans F9)
        replace F6 := (congrFun hs2 6).trans upd_at
        replace hO := hO2
        clear hs2 hO2 hh
        refine e_al0 dX7_advances_183 ?_
        refine e_dup dX7_advances_184 rfl ?_
        refine e_get dX7_advances_185 fX7_95 hO rfl ?_
        rw [F4]
        refine e_al0 dX7_advances_188 ?_
        refine e_get dX7_advances_189 fX7_107 hO rfl ?_
        rw [F6]
        refine e_if_neN 199 dX7_advances_192 (by decide) (by omega) (fun c_192 => ?_) (fun c_192 => ?_)
        · exact absurd c_192 (by omega)
        · refine e_iconst (nI 0) dX7_advances_195 (by decide) ?_
          refine e_goto 200 dX7_advances_196 (by decide) ?_
          refine e_iaddN dX7_advances_200 ?_
          refine e_put dX7_advances_201 fX7_95 hO (Nat.le_of_ble_eq_true rfl) (fun g => ⟨rfl, rfl⟩) ?_
          refine e_abs (fun h1 hh => ?_)
          obtain ⟨s1, hs2, hO2⟩ : ∃ t, t = upd s1 4 (nI (a + 0)) ∧ RO h1 t := ⟨_, rfl, jhs_at hh hO⟩
          replace hB := jhs hh hB (by omega)
          replace E := jEq.hs hh E rfl
          replace F0 := (congrFun hs2 0).trans ((upd_ne (by decide)).trans F0)
          replace F1 := (congrFun hs2 1).trans ((upd_ne (by decide)).trans F1)
          replace F2 := (congrFun hs2 2).trans ((upd_ne (by decide)).trans F2)
          replace F3 := (congrFun hs2 3).trans ((upd_ne (by decide)).trans F3)
          replace F5 := (congrFun hs2 5).trans ((upd_ne (by decide)).trans F5)
          replace F6 := (congrFun hs2 6).trans ((upd_ne (by decide)).trans F6)
          replace F7 := (congrFun hs2 7).trans ((upd_ne (by decide)).trans F7)
          replace F8 := (congrFun hs2 8).trans ((upd_ne (by decide)).trans F8)
          replace F9 := (congrFun hs2 9).trans ((upd_ne (by decide)).trans F9)
          replace F4 := (congrFun hs2 4).trans upd_at
          replace hO := hO2
          clear hs2 hO2 hh
          exact e_ret hX dX7_advances_204 (⟨rfl, s1, hO, ⟨F0, F1, F2, F3, F8, F9⟩, ⟨F5, by rw [F6, tk_0.mpr hn2], fun _ => ⟨by rw [F7, vl, if_neg (fun z => hn2 z.1.1), if_neg hn2], by rw [F4, nx, if_neg (fun z => hn2 z.1.1), if_neg hn2, Nat.add_zero]⟩⟩, E⟩) (fun z => z)
  · rw [in_d hT] at c_30
    refine e_al0 dX7_advances_33 ?_
    refine e_iconst (nI 0) dX7_advances_34 (by decide) ?_
    refine e_put dX7_advances_35 fX7_104 hO (Nat.le_of_ble_eq_true rfl) (fun g => ⟨rfl, rfl⟩) ?_
    refine e_abs (fun h1 hh => ?_)
    obtain ⟨s1, hs2, hO2⟩ : ∃ t, t = upd s1 7 (nI 0) ∧ RO h1 t := ⟨_, rfl, jhs_at hh hO⟩
    replace hB := jhs hh hB (by omega)
    replace E := jEq.hs hh E rfl
    replace F0 := (congrFun hs2 0).trans ((upd_ne (by decide)).trans F0)
    replace F1 := (congrFun hs2 1).trans ((upd_ne (by decide)).trans F1)
    replace F2 := (congrFun hs2 2).trans ((upd_ne (by decide)).trans F2)
    replace F3 := (congrFun hs2 3).trans ((upd_ne (by decide)).trans F3)
    replace F4 := (congrFun hs2 4).trans ((upd_ne (by decide)).trans F4)
    replace F5 := (congrFun hs2 5).trans ((upd_ne (by decide)).trans F5)
    replace F6 := (congrFun hs2 6).trans ((upd_ne (by decide)).trans F6)
    replace F8 := (congrFun hs2 8).trans ((upd_ne (by decide)).trans F8)
    replace F9 := (congrFun hs2 9).trans ((upd_ne (by decide)).trans F9)
    replace F7 := (congrFun hs2 7).trans upd_at
    replace hO := hO2
    clear hs2 hO2 hh
    exact lp_X7_adv hb hn hT N1 c_30 hX (n + 1) 0 _ s1 (by omega) (by omega) (fun i hi => absurd hi (by omega)) hO F0 F1 F2 F3 F8 F9 F4 F5 F7 hB E
set_option maxRecDepth 100000 in
set_option maxHeartbeats 4000000 in
theorem m_X7_isWell0 {h : jH} {s : Nat → Int32} (hO : RO h s) : jM yX7_isWell cX7_isWell 1 (some .boolean) 0 none [.ref 218] h (jRt (.int (jb (s 3 < 0))) h) := by
  refine jM.ofF (by decide +kernel) rfl (Nat.le_of_ble_eq_true rfl) (fun X hX hI => ?_)
  show jV cX7_isWell RX7 0 X none 0 [some (.ref 218)] [] h
  refine e_al0 dX7_isWell_0 ?_
  refine e_get dX7_isWell_1 fX7_110 hO rfl ?_
  refine e_if_ge 11 dX7_isWell_4 (by decide) (fun c_4 => ?_) (fun c_4 => ?_)
  · refine e_iconst (nI 0) dX7_isWell_11 (by decide) ?_
    exact e_zret hX dX7_isWell_12 rfl (by rw [show jb (s 3 < 0) = nI 0 from jb_fN (fun z => by rw [fa_lt] at z; rw [fa_le] at c_4; omega)]; exact ⟨rfl, rfl⟩) (fun z => z)
  · refine e_iconst (nI 1) dX7_isWell_7 (by decide) ?_
    refine e_goto 12 dX7_isWell_8 (by decide) ?_
    exact e_zret hX dX7_isWell_12 rfl (by rw [show jb (s 3 < 0) = nI 1 from jb_tN (by rw [fa_lt]; rw [fa_le] at c_4; omega)]; exact ⟨rfl, rfl⟩) (fun z => z)
theorem m_X7_isWell {h0 h : jH} {s : Nat → Int32} {n : Nat} {T : Nat → Nat} {x : sT} {u : hw} (hn : n ≤ 100) (t : rS h0 h s n T x u) : jM yX7_isWell cX7_isWell 1 (some .boolean) 0 none [.ref 218] h (jRt (.int (jb (x.isLeft = true))) h) := by
  obtain ⟨s1, hO, -, hl, hr, -⟩ := id t
  rw [← jb_iff (s3_well (h0 := h) (h := h) hn (fun a e => (hl a e).2.2.1) (fun q e => ⟨(hr q e).1, (hr q e).2.2⟩))]
  exact m_X7_isWell0 hO
set_option maxRecDepth 100000 in
set_option maxHeartbeats 4000000 in
theorem m_X7_takes {h0 h : jH} {s : Nat → Int32} {n : Nat} {B T : Nat → Nat} (hb : ∀ i, i < n → B i = T i) (hn : n ≤ 100) (hT : ∀ i, i < n → T i ≤ 255) (hB0 : h0[223]? = some (jN 100 B)) {x : sT} {u : hw} (t : rS h0 h s n T x u) {P : Prop} [Decidable P] {is : Int32} (his : ∀ a, x = .inl a → is = jb P) (hP : ∀ a, x = .inl a → P → tk n T a ≠ 0 ∧ tk n T a ≠ 5) {k : Nat} : jM yX7_takes cX7_takes 4 (some .int) 2 none [.ref 218, .int is, .int (nI k)] h (fun v h' => v = some (.int (s_KV n T P x)) ∧ rS h0 h' s n T (s_K n T P k x) u) := by
  obtain ⟨s1, hO, ⟨F0, F1, F8, F9⟩, hl, hr, hU, E⟩ := id t
  refine jM.ofF (by decide +kernel) rfl (Nat.le_of_ble_eq_true rfl) (fun X hX hI => ?_)
  show jV cX7_takes RX7 2 X none 0 [some (.ref 218), some (.int is), some (.int (nI k)), none] [] h
  refine e_al0 dX7_takes_0 ?_
  refine e_cv dX7_takes_1 vX7_113 (m_X7_isWell hn t) (by decide) rfl rfl (Nat.le_of_ble_eq_true rfl) jBud0 rfl hO ?_
  rintro _ _ ⟨rfl, rfl⟩
  refine e_if_neB 9 dX7_takes_4 (by decide) (fun c_4 => ?_) (fun c_4 => ?_)
  · obtain ⟨a, rfl⟩ := sT_l c_4
    obtain ⟨ha, F2, F3, F5, F6, F74⟩ := hl a rfl
    rw [his a rfl]
    refine e_il1 dX7_takes_9 ?_
    refine e_if_neB 28 dX7_takes_10 (by decide) (fun c_10 => ?_) (fun c_10 => ?_)
    · obtain ⟨F7, N4⟩ := F74 (hP a rfl c_10).2
      refine e_al0 dX7_takes_28 ?_
      refine e_get dX7_takes_29 fX7_104 hO rfl ?_
      rw [F7]
      refine e_is3 dX7_takes_32 rfl ?_
      refine e_al0 dX7_takes_33 ?_
      refine e_cv dX7_takes_34 vX7_120 (m_X7_advances hb hn hT hO F1 N4 (nx_le ha) (E.at (by omega) hB0)) (by decide) rfl rfl (Nat.le_of_ble_eq_true rfl) jBud0 rfl hO ?_
      rintro _ h1 ⟨rfl, tl⟩
      refine e_il3 dX7_takes_37 ?_
      exact e_iret hX dX7_takes_38 (by
        refine ⟨by rw [s_KV, if_pos c_10], ?_⟩
        rw [s_K, if_pos c_10]
        obtain ⟨s2, q1, ⟨q2, q3, q4, q5, q6, q7⟩, ⟨q8, q9, q10⟩, q11⟩ := tl
        exact ⟨s2, q1, ⟨q2.trans F0, q3.trans F1, q6.trans F8, q7.trans F9⟩, fun b z => by
          cases z
          exact ⟨nx_le ha, q4.trans F2, q5.trans F3, q8, q9, q10⟩, (fun q z => nomatch z), q11.at (by omega) hU, E.tr q11 (fun j q => q) (fun j q => Or.inl q)⟩) (fun z => z)
    · refine e_al0 dX7_takes_13 ?_
      refine e_al0 dX7_takes_14 ?_
      refine e_get dX7_takes_15 fX7_98 hO rfl ?_
      rw [F5]
      refine e_put dX7_takes_18 fX7_110 hO (Nat.le_of_ble_eq_true rfl) (fun g => ⟨rfl, rfl⟩) ?_
      refine e_abs (fun h1 hh => ?_)
      replace hO : RO h1 (upd s1 3 (nI a)) := jhs_at hh hO
      replace hU := jhs hh hU (by omega)
      replace E := jEq.hs hh E (Or.inl rfl)
      clear hh
      refine e_al0 dX7_takes_21 ?_
      refine e_il2 dX7_takes_22 ?_
      refine e_put dX7_takes_23 fX7_117 hO (Nat.le_of_ble_eq_true rfl) (fun g => ⟨rfl, rfl⟩) ?_
      refine e_abs (fun h2 hh => ?_)
      replace hO : RO h2 (upd (upd s1 3 (nI a)) 2 (nI k)) := jhs_at hh hO
      replace hU := jhs hh hU (by omega)
      replace E := jEq.hs hh E (Or.inl rfl)
      clear hh
      refine e_iconst (nI 0) dX7_takes_26 (by decide) ?_
      exact e_iret hX dX7_takes_27 (by
        refine ⟨by rw [s_KV, if_neg c_10], ?_⟩
        rw [s_K, if_neg c_10]
        exact ⟨_, hO, ⟨(upd_ne (by decide)).trans ((upd_ne (by decide)).trans F0), (upd_ne (by decide)).trans ((upd_ne (by decide)).trans F1), (upd_ne (by decide)).trans ((upd_ne (by decide)).trans F8), (upd_ne (by decide)).trans ((upd_ne (by decide)).trans F9)⟩, (fun b z => nomatch z), fun q z => by
          cases z
          exact ⟨ha, upd_at, (upd_ne (by decide)).trans upd_at⟩, hU, E⟩) (fun z => z)
  · refine e_iconst (nI 0) dX7_takes_7 (by decide) ?_
    exact e_iret hX dX7_takes_8 (by
      obtain ⟨q, rfl⟩ := sT_r c_4
      exact ⟨rfl, t⟩) (fun z => z)
theorem m_X7_comma {h0 h : jH} {s : Nat → Int32} {n : Nat} {B T : Nat → Nat} (hb : ∀ i, i < n → B i = T i) (hn : n ≤ 100) (hT : ∀ i, i < n → T i ≤ 255) (hB0 : h0[223]? = some (jN 100 B)) {x : sT} {u : hw} (t : rS h0 h s n T x u) {s1 : Nat → Int32} (h6 : ∀ a, x = .inl a → s1 6 = nI (tk n T a)) {is : Int32} (his : is = jb (s1 6 = nI 3)) : jM yX7_takes cX7_takes 4 (some .int) 2 none [.ref 218, .int is, .int (nI 1)] h (fun v h' => rS h0 h' s n T (s_B n T 44 x) u ∧ ∃ y : Int32, v = some (.int y)) := by
  refine (m_X7_takes hb hn hT hB0 t (P := s1 6 = nI 3) (fun _ _ => his) (fun a e hp => ?_)).weak ?_
  · rw [h6 a e, nI_eq (by have := tk_le n T a; omega) (by omega)] at hp
    omega
  · rintro v h' ⟨rfl, t2⟩
    rw [K_B (Or.inl ⟨rfl, rfl⟩) h6] at t2
    exact ⟨t2, _, rfl⟩
theorem m_X7_stop {h0 h : jH} {s : Nat → Int32} {n : Nat} {B T : Nat → Nat} (hb : ∀ i, i < n → B i = T i) (hn : n ≤ 100) (hT : ∀ i, i < n → T i ≤ 255) (hB0 : h0[223]? = some (jN 100 B)) {x : sT} {u : hw} (t : rS h0 h s n T x u) {s1 : Nat → Int32} (h6 : ∀ a, x = .inl a → s1 6 = nI (tk n T a)) {is : Int32} (his : is = jb (s1 6 = nI 4)) : jM yX7_takes cX7_takes 4 (some .int) 2 none [.ref 218, .int is, .int (nI 1)] h (fun v h' => rS h0 h' s n T (s_B n T 59 x) u ∧ ∃ y : Int32, v = some (.int y)) := by
  refine (m_X7_takes hb hn hT hB0 t (P := s1 6 = nI 4) (fun _ _ => his) (fun a e hp => ?_)).weak ?_
  · rw [h6 a e, nI_eq (by have := tk_le n T a; omega) (by omega)] at hp
    omega
  · rintro v h' ⟨rfl, t2⟩
    rw [K_B (Or.inr ⟨rfl, rfl⟩) h6] at t2
    exact ⟨t2, _, rfl⟩
set_option maxRecDepth 100000 in
set_option maxHeartbeats 4000000 in
theorem m_X7_figure {h0 h : jH} {s : Nat → Int32} {n : Nat} {B T : Nat → Nat} (hb : ∀ i, i < n → B i = T i) (hn : n ≤ 100) (hT : ∀ i, i < n → T i ≤ 255) (hB0 : h0[223]? = some (jN 100 B)) {x : sT} {u : hw} (t : rS h0 h s n T x u) {lo hi : Nat} (hlo : lo < 1000) (hhi : hi < 1000) : jM yX7_figure cX7_figure 3 (some .int) 3 none [.ref 218, .int (nI lo), .int (nI hi)] h (fun v h' => v = some (.int (nI (s_N n T lo hi x).1)) ∧ rS h0 h' s n T (s_N n T lo hi x).2 u) := by
  obtain ⟨s1, hO, ⟨F0, F1, F8, F9⟩, hl, hr, hU, E⟩ := id t
  refine jM.ofF (by decide +kernel) rfl (Nat.le_of_ble_eq_true rfl) (fun X hX hI => ?_)
  show jV cX7_figure RX7 3 X none 0 [some (.ref 218), some (.int (nI lo)), some (.int (nI hi))] [] h
  refine e_al0 dX7_figure_0 ?_
  refine e_cv dX7_figure_1 vX7_113 (m_X7_isWell hn t) (by decide) rfl rfl (Nat.le_of_ble_eq_true rfl) jBud0 rfl hO ?_
  rintro _ _ ⟨rfl, rfl⟩
  refine e_if_eqB 22 dX7_figure_4 (by decide) (fun c_4 => ?_) (fun c_4 => ?_)
  · refine e_al0 dX7_figure_22 ?_
    refine e_al0 dX7_figure_23 ?_
    refine e_get dX7_figure_24 fX7_104 hO rfl ?_
    refine e_il1 dX7_figure_27 ?_
    refine e_il2 dX7_figure_28 ?_
    refine e_cs dX7_figure_29 sX7_65 (m_X7_in) (by decide) rfl rfl (Nat.le_of_ble_eq_true rfl) jBud0 ?_
    rintro _ _ ⟨rfl, rfl⟩
    refine e_iconst (nI 2) dX7_figure_32 (by decide) ?_
    refine e_cv dX7_figure_33 vX7_123 (m_X7_takes hb hn hT hB0 t (P := nI lo ≤ s1 7 ∧ s1 7 ≤ nI hi) (fun _ _ => rfl) (fun a e => absurd (by rw [e]; rfl) c_4)) (by decide) rfl rfl (Nat.le_of_ble_eq_true rfl) jBud0 rfl hO ?_
    rintro _ h1 ⟨rfl, t2⟩
    exact e_iret hX dX7_figure_36 (by
      obtain ⟨q, rfl⟩ := sT_r c_4
      exact ⟨rfl, t2⟩) (fun z => z)
  · obtain ⟨a, rfl⟩ := sT_l c_4
    obtain ⟨ha, F2, F3, F5, F6, F74⟩ := hl a rfl
    have t5 := tk_le n T a
    refine e_al0 dX7_figure_7 ?_
    refine e_get dX7_figure_8 fX7_107 hO rfl ?_
    rw [F6]
    refine e_iconst (nI 2) dX7_figure_11 (by decide) ?_
    refine e_ic_eqN 22 dX7_figure_12 (by decide) (by omega) (by omega) (fun c_12 => ?_) (fun c_12 => ?_)
    · refine e_al0 dX7_figure_22 ?_
      refine e_al0 dX7_figure_23 ?_
      refine e_get dX7_figure_24 fX7_104 hO rfl ?_
      refine e_il1 dX7_figure_27 ?_
      refine e_il2 dX7_figure_28 ?_
      refine e_cs dX7_figure_29 sX7_65 (m_X7_in) (by decide) rfl rfl (Nat.le_of_ble_eq_true rfl) jBud0 ?_
      rintro _ _ ⟨rfl, rfl⟩
      refine e_iconst (nI 2) dX7_figure_32 (by decide) ?_
      refine e_cv dX7_figure_33 vX7_123 (m_X7_takes hb hn hT hB0 t (P := nI lo ≤ s1 7 ∧ s1 7 ≤ nI hi) (fun _ _ => rfl) (fun b e _ => by cases e; omega)) (by decide) rfl rfl (Nat.le_of_ble_eq_true rfl) jBud0 rfl hO ?_
      rintro _ h1 ⟨rfl, t2⟩
      exact e_iret hX dX7_figure_36 (by
        have fi := tk_2.mp c_12
        have v99 := n_v_le fi
        have F7 := (F74 (by omega)).1
        have hio : (nI lo ≤ s1 7 ∧ s1 7 ≤ nI hi) ↔ n_ok n T lo hi a := by
          rw [F7, vl_n fi, nI_leI (by omega) (by omega), nI_leI (by omega) (by omega)]
          exact ⟨fun z => ⟨fi, z⟩, fun z => z.2⟩
        by_cases c : n_ok n T lo hi a
        · rw [s_N_t c]
          rw [s_KV, if_pos (hio.mpr c), vl_n fi] at *
          rw [s_K, if_pos (hio.mpr c), nx_n fi] at t2
          exact ⟨rfl, t2⟩
        · rw [s_N_f c, if_pos fi]
          rw [s_K, if_neg (fun z => c (hio.mp z))] at t2
          exact ⟨by rw [s_KV, if_neg (fun z => c (hio.mp z))], t2⟩) (fun z => z)
    · refine e_al0 dX7_figure_15 ?_
      refine e_iconst (nI 0) dX7_figure_16 (by decide) ?_
      refine e_iconst (nI 1) dX7_figure_17 (by decide) ?_
      refine e_cv dX7_figure_18 vX7_123 (m_X7_takes hb hn hT hB0 t (P := False) (fun _ _ => rfl) (fun _ _ z => z.elim)) (by decide) rfl rfl (Nat.le_of_ble_eq_true rfl) jBud0 rfl hO ?_
      rintro _ h1 ⟨rfl, t2⟩
      exact e_iret hX dX7_figure_21 (by
        have hne : ¬ n_ok n T lo hi a := fun z => c_12 (tk_2.mpr z.1)
        rw [s_N_f hne, if_neg (fun z => c_12 (tk_2.mpr z))]
        exact ⟨rfl, t2⟩) (fun z => z)
set_option maxRecDepth 100000 in
set_option maxHeartbeats 4000000 in
theorem m_X7_follows {h0 h : jH} {s : Nat → Int32} {n : Nat} {B T : Nat → Nat} (hb : ∀ i, i < n → B i = T i) (hn : n ≤ 100) (hT : ∀ i, i < n → T i ≤ 255) (hB0 : h0[223]? = some (jN 100 B)) {x : sT} {u : hw} (t : rS h0 h s n T x u) {lo hi : Nat} (hlo : lo < 1000) (hhi : hi < 1000) : jM yX7_follows cX7_follows 3 (some .int) 4 none [.ref 218, .int (nI lo), .int (nI hi)] h (fun v h' => v = some (.int (nI (s_N n T lo hi (s_B n T 44 x)).1)) ∧ rS h0 h' s n T (s_N n T lo hi (s_B n T 44 x)).2 u) := by
  obtain ⟨s1, hO, ⟨F0, F1, F8, F9⟩, hl, hr, hU, E⟩ := id t
  refine jM.ofF (by decide +kernel) rfl (Nat.le_of_ble_eq_true rfl) (fun X hX hI => ?_)
  show jV cX7_follows RX7 4 X none 0 [some (.ref 218), some (.int (nI lo)), some (.int (nI hi))] [] h
  refine e_al0 dX7_follows_0 ?_
  refine e_al0 dX7_follows_1 ?_
  refine e_get dX7_follows_2 fX7_107 hO rfl ?_
  refine e_iconst (nI 3) dX7_follows_5 (by decide) ?_
  refine e_ic_ne 13 dX7_follows_6 (by decide) (fun c_6 => ?_) (fun c_6 => ?_)
  · refine e_iconst (nI 0) dX7_follows_13 (by decide) ?_
    refine e_iconst (nI 1) dX7_follows_14 (by decide) ?_
    refine e_cv dX7_follows_15 vX7_123 (m_X7_comma hb hn hT hB0 t (s1 := s1) (fun a e => (hl a e).2.2.2.2.1) (jb_fN c_6).symm) (by decide) rfl rfl (Nat.le_of_ble_eq_true rfl) jBud0 rfl hO ?_
    rintro _ h1 ⟨t, y, rfl⟩
    clear hO F0 F1 F8 F9 hl hr hU E
    obtain ⟨s1, hO, ⟨F0, F1, F8, F9⟩, hl, hr, hU, E⟩ := id t
    refine e_pop dX7_follows_18 rfl ?_
    refine e_al0 dX7_follows_19 ?_
    refine e_il1 dX7_follows_20 ?_
    refine e_il2 dX7_follows_21 ?_
    refine e_cv dX7_follows_22 vX7_127 (m_X7_figure hb hn hT hB0 t (by omega) (by omega)) (by decide) rfl rfl (Nat.le_of_ble_eq_true rfl) jBud0 rfl hO ?_
    rintro _ h1 ⟨rfl, t⟩
    clear hO F0 F1 F8 F9 hl hr hU E
    obtain ⟨s1, hO, ⟨F0, F1, F8, F9⟩, hl, hr, hU, E⟩ := id t
    exact e_iret hX dX7_follows_25 (⟨rfl, t⟩) (fun z => z)
  · refine e_iconst (nI 1) dX7_follows_9 (by decide) ?_
    refine e_goto 14 dX7_follows_10 (by decide) ?_
    refine e_iconst (nI 1) dX7_follows_14 (by decide) ?_
    refine e_cv dX7_follows_15 vX7_123 (m_X7_comma hb hn hT hB0 t (s1 := s1) (fun a e => (hl a e).2.2.2.2.1) (jb_tN c_6).symm) (by decide) rfl rfl (Nat.le_of_ble_eq_true rfl) jBud0 rfl hO ?_
    rintro _ h1 ⟨t, y, rfl⟩
    clear hO F0 F1 F8 F9 hl hr hU E
    obtain ⟨s1, hO, ⟨F0, F1, F8, F9⟩, hl, hr, hU, E⟩ := id t
    refine e_pop dX7_follows_18 rfl ?_
    refine e_al0 dX7_follows_19 ?_
    refine e_il1 dX7_follows_20 ?_
    refine e_il2 dX7_follows_21 ?_
    refine e_cv dX7_follows_22 vX7_127 (m_X7_figure hb hn hT hB0 t (by omega) (by omega)) (by decide) rfl rfl (Nat.le_of_ble_eq_true rfl) jBud0 rfl hO ?_
    rintro _ h1 ⟨rfl, t⟩
    clear hO F0 F1 F8 F9 hl hr hU E
    obtain ⟨s1, hO, ⟨F0, F1, F8, F9⟩, hl, hr, hU, E⟩ := id t
    exact e_iret hX dX7_follows_25 (⟨rfl, t⟩) (fun z => z)
set_option maxRecDepth 100000 in
set_option maxHeartbeats 4000000 in
theorem m_X7_kindOf {h : jH} {x : Nat} (hx : x ≤ 255) : jM yX7_kindOf cX7_kindOf 1 (some .int) 0 none [.int (nI x)] h (jRt (.int (nI (s_kd x))) h) := by
  refine jM.ofF (by decide +kernel) rfl (Nat.le_of_ble_eq_true rfl) (fun X hX hI => ?_)
  show jV cX7_kindOf RX7 0 X none 0 [some (.int (nI x))] [] h
  refine e_il0 dX7_kindOf_0 ?_
  refine e_bipush (nI 108) dX7_kindOf_1 (by decide) ?_
  refine e_ic_neN 10 dX7_kindOf_3 (by decide) (by omega) (by omega) (fun c_3 => ?_) (fun c_3 => ?_)
  · refine e_il0 dX7_kindOf_10 ?_
    refine e_bipush (nI 111) dX7_kindOf_11 (by decide) ?_
    refine e_ic_neN 20 dX7_kindOf_13 (by decide) (by omega) (by omega) (fun c_13 => ?_) (fun c_13 => ?_)
    · refine e_il0 dX7_kindOf_20 ?_
      refine e_bipush (nI 115) dX7_kindOf_21 (by decide) ?_
      refine e_ic_neN 30 dX7_kindOf_23 (by decide) (by omega) (by omega) (fun c_23 => ?_) (fun c_23 => ?_)
      · refine e_il0 dX7_kindOf_30 ?_
        refine e_bipush (nI 116) dX7_kindOf_31 (by decide) ?_
        refine e_ic_neN 40 dX7_kindOf_33 (by decide) (by omega) (by omega) (fun c_33 => ?_) (fun c_33 => ?_)
        · refine e_il0 dX7_kindOf_40 ?_
          refine e_bipush (nI 98) dX7_kindOf_41 (by decide) ?_
          refine e_ic_neN 50 dX7_kindOf_43 (by decide) (by omega) (by omega) (fun c_43 => ?_) (fun c_43 => ?_)
          · refine e_iconst (nI 0) dX7_kindOf_50 (by decide) ?_
            exact e_iret hX dX7_kindOf_51 (jRt_e (by unfold s_kd; rw [if_neg c_3, if_neg c_13, if_neg c_23, if_neg c_33, if_neg c_43])) (fun z => z)
          · refine e_iconst (nI 5) dX7_kindOf_46 (by decide) ?_
            refine e_goto 51 dX7_kindOf_47 (by decide) ?_
            exact e_iret hX dX7_kindOf_51 (jRt_e (by unfold s_kd; rw [if_neg c_3, if_neg c_13, if_neg c_23, if_neg c_33, if_pos c_43])) (fun z => z)
        · refine e_iconst (nI 4) dX7_kindOf_36 (by decide) ?_
          refine e_goto 51 dX7_kindOf_37 (by decide) ?_
          exact e_iret hX dX7_kindOf_51 (jRt_e (by unfold s_kd; rw [if_neg c_3, if_neg c_13, if_neg c_23, if_pos c_33])) (fun z => z)
      · refine e_iconst (nI 3) dX7_kindOf_26 (by decide) ?_
        refine e_goto 51 dX7_kindOf_27 (by decide) ?_
        exact e_iret hX dX7_kindOf_51 (jRt_e (by unfold s_kd; rw [if_neg c_3, if_neg c_13, if_pos c_23])) (fun z => z)
    · refine e_iconst (nI 2) dX7_kindOf_16 (by decide) ?_
      refine e_goto 51 dX7_kindOf_17 (by decide) ?_
      exact e_iret hX dX7_kindOf_51 (jRt_e (by unfold s_kd; rw [if_neg c_3, if_pos c_13])) (fun z => z)
  · refine e_iconst (nI 1) dX7_kindOf_6 (by decide) ?_
    refine e_goto 51 dX7_kindOf_7 (by decide) ?_
    exact e_iret hX dX7_kindOf_51 (jRt_e (by unfold s_kd; rw [if_pos c_3])) (fun z => z)
set_option maxRecDepth 100000 in
set_option maxHeartbeats 4000000 in
theorem m_X7_must {h0 h : jH} {s : Nat → Int32} {n : Nat} {B T : Nat → Nat} (hb : ∀ i, i < n → B i = T i) (hn : n ≤ 100) (hT : ∀ i, i < n → T i ≤ 255) (hB0 : h0[223]? = some (jN 100 B)) {x : sT} {u : hw} (t : rS h0 h s n T x u) {P : Prop} [Decidable P] {is : Int32} (his : is = jb P) : jM yX7_must cX7_must 2 (none : Option Jvm.ClassFile.FieldType) 3 none [.ref 218, .int is] h (fun v h' => v = none ∧ rS h0 h' s n T (s_M P x) u) := by
  obtain ⟨s1, hO, ⟨F0, F1, F8, F9⟩, hl, hr, hU, E⟩ := id t
  refine jM.ofF (by decide +kernel) rfl (Nat.le_of_ble_eq_true rfl) (fun X hX hI => ?_)
  show jV cX7_must RX7 3 X none 0 [some (.ref 218), some (.int is)] [] h
  refine e_al0 dX7_must_0 ?_
  refine e_cv dX7_must_1 vX7_113 (m_X7_isWell hn t) (by decide) rfl rfl (Nat.le_of_ble_eq_true rfl) jBud0 rfl hO ?_
  rintro _ _ ⟨rfl, rfl⟩
  refine e_if_eqB 18 dX7_must_4 (by decide) (fun c_4 => ?_) (fun c_4 => ?_)
  · exact e_ret hX dX7_must_18 (by
      obtain ⟨q, rfl⟩ := sT_r c_4
      exact ⟨rfl, t⟩) (fun z => z)
  · rw [his]
    refine e_il1 dX7_must_7 ?_
    refine e_if_neB 18 dX7_must_8 (by decide) (fun c_8 => ?_) (fun c_8 => ?_)
    · exact e_ret hX dX7_must_18 (by
        obtain ⟨a, rfl⟩ := sT_l c_4
        exact ⟨rfl, t.cg (if_pos c_8).symm rfl⟩) (fun z => z)
    · refine e_al0 dX7_must_11 ?_
      refine e_iconst (nI 0) dX7_must_12 (by decide) ?_
      refine e_iconst (nI 1) dX7_must_13 (by decide) ?_
      refine e_cv dX7_must_14 vX7_123 (m_X7_takes hb hn hT hB0 t (P := False) (fun _ _ => rfl) (fun _ _ z => z.elim)) (by decide) rfl rfl (Nat.le_of_ble_eq_true rfl) jBud0 rfl hO ?_
      rintro _ h1 ⟨rfl, t2⟩
      refine e_pop dX7_must_17 rfl ?_
      exact e_ret hX dX7_must_18 (by
        obtain ⟨a, rfl⟩ := sT_l c_4
        exact ⟨rfl, t2.cg (if_neg c_8).symm rfl⟩) (fun z => z)
set_option maxRecDepth 100000 in
set_option maxHeartbeats 4000000 in
theorem m_X7_readsHearth {h0 h : jH} {s : Nat → Int32} {n : Nat} {B T : Nat → Nat} (hb : ∀ i, i < n → B i = T i) (hn : n ≤ 100) (hT : ∀ i, i < n → T i ≤ 255) (hB0 : h0[223]? = some (jN 100 B)) {a : Nat} {u : hw} (t : rS h0 h s n T (.inl a) u) (hf : b_is n T 102 a) (h8 : u 2 ≤ 8) : jM yX7_readsHearth cX7_readsHearth 3 (none : Option Jvm.ClassFile.FieldType) 4 none [.ref 218] h (fun v h' => v = none ∧ rS h0 h' s n T (if u 2 < 8 then (s_h1 n T a).2 else .inr (3, a)) (if u 2 < 8 then if (s_h1 n T a).2.isLeft = true then va_up (va_up u (5 + u 2) (s_h1 n T a).1) 2 (u 2 + 1) else u else u)) := by
  obtain ⟨s1, hO, ⟨F0, F1, F8, F9⟩, hl, hr, hU, E⟩ := id t
  have t1a := (tk_l (T := T)).mpr ⟨hf.1, by have := hf.2; omega, by have := hf.2; omega⟩
  refine jM.ofF (by decide +kernel) rfl (Nat.le_of_ble_eq_true rfl) (fun X hX hI => ?_)
  show jV cX7_readsHearth RX7 4 X none 0 [some (.ref 218), none, none] [] h
  refine e_al0 dX7_readsHearth_0 ?_
  refine e_al0 dX7_readsHearth_1 ?_
  refine e_get dX7_readsHearth_2 fX7_28 hO rfl ?_
  refine e_iconst (nI 2) dX7_readsHearth_5 (by decide) ?_
  refine e_ialdN dX7_readsHearth_6 hU (by omega) (by decide) ?_
  refine e_bipush (nI 8) dX7_readsHearth_7 (by decide) ?_
  refine e_ic_geN 16 dX7_readsHearth_9 (by decide) (by omega) (by omega) (fun c_9 => ?_) (fun c_9 => ?_)
  · refine e_iconst (nI 0) dX7_readsHearth_16 (by decide) ?_
    refine e_iconst (nI 3) dX7_readsHearth_17 (by decide) ?_
    refine e_cv dX7_readsHearth_18 vX7_123 (m_X7_takes hb hn hT hB0 t (P := u 2 < 8) (fun _ _ => (jb_fN (by omega)).symm) (fun b e _ => by cases e; omega)) (by decide) rfl rfl (Nat.le_of_ble_eq_true rfl) jBud0 rfl hO ?_
    rintro _ h1 ⟨rfl, t⟩
    clear hO F0 F1 F8 F9 hl hr hU E
    obtain ⟨s1, hO, ⟨F0, F1, F8, F9⟩, hl, hr, hU, E⟩ := id t
    refine e_pop dX7_readsHearth_21 rfl ?_
    refine e_iconst (nI 5) dX7_readsHearth_22 (by decide) ?_
    refine e_al0 dX7_readsHearth_23 ?_
    refine e_get dX7_readsHearth_24 fX7_28 hO rfl ?_
    refine e_iconst (nI 2) dX7_readsHearth_27 (by decide) ?_
    refine e_ialdN dX7_readsHearth_28 hU (by omega) (by decide) ?_
    refine e_bipush (nI 8) dX7_readsHearth_29 (by decide) ?_
    refine e_ic_geN 43 dX7_readsHearth_31 (by decide) (by omega) (by omega) (fun c_31 => ?_) (fun c_31 => ?_)
    · refine e_iconst (nI 0) dX7_readsHearth_43 (by decide) ?_
      refine e_iaddN dX7_readsHearth_44 ?_
      refine e_is1 dX7_readsHearth_45 rfl ?_
      refine e_al0 dX7_readsHearth_46 ?_
      refine e_iconst (nI 0) dX7_readsHearth_47 (by decide) ?_
      refine e_bipush (nI 20) dX7_readsHearth_48 (by decide) ?_
      refine e_cv dX7_readsHearth_50 vX7_127 (m_X7_figure hb hn hT hB0 t (by omega) (by omega)) (by decide) rfl rfl (Nat.le_of_ble_eq_true rfl) jBud0 rfl hO ?_
      rintro _ h1 ⟨rfl, t⟩
      clear hO F0 F1 F8 F9 hl hr hU E
      obtain ⟨s1, hO, ⟨F0, F1, F8, F9⟩, hl, hr, hU, E⟩ := id t
      refine e_is2 dX7_readsHearth_53 rfl ?_
      refine e_al0 dX7_readsHearth_54 ?_
      refine e_al0 dX7_readsHearth_55 ?_
      refine e_get dX7_readsHearth_56 fX7_107 hO rfl ?_
      refine e_iconst (nI 4) dX7_readsHearth_59 (by decide) ?_
      refine e_ic_ne 67 dX7_readsHearth_60 (by decide) (fun c_60 => ?_) (fun c_60 => ?_)
      · refine e_iconst (nI 0) dX7_readsHearth_67 (by decide) ?_
        refine e_iconst (nI 1) dX7_readsHearth_68 (by decide) ?_
        refine e_cv dX7_readsHearth_69 vX7_123 (m_X7_stop hb hn hT hB0 t (s1 := s1) (fun a e => (hl a e).2.2.2.2.1) (jb_fN c_60).symm) (by decide) rfl rfl (Nat.le_of_ble_eq_true rfl) jBud0 rfl hO ?_
        rintro _ h1 ⟨t, y, rfl⟩
        clear hO F0 F1 F8 F9 hl hr hU E
        obtain ⟨s1, hO, ⟨F0, F1, F8, F9⟩, hl, hr, hU, E⟩ := id t
        refine e_pop dX7_readsHearth_72 rfl ?_
        refine e_al0 dX7_readsHearth_73 ?_
        refine e_cv dX7_readsHearth_74 vX7_113 (m_X7_isWell hn t) (by decide) rfl rfl (Nat.le_of_ble_eq_true rfl) jBud0 rfl hO ?_
        rintro _ _ ⟨rfl, rfl⟩
        refine e_if_eqB 97 dX7_readsHearth_77 (by decide) (fun c_77 => ?_) (fun c_77 => ?_)
        · exact e_ret hX dX7_readsHearth_97 (by
            refine ⟨rfl, ?_⟩
            rw [if_neg (show ¬ u 2 < 8 by omega), if_neg (show ¬ u 2 < 8 by omega)]
            exact t.cg (by rw [s_K, if_neg (by omega)]; rfl) rfl) (fun z => z)
        · exact absurd c_77 (by rw [s_K, if_neg (by omega)]; exact Bool.false_ne_true)
      · refine e_iconst (nI 1) dX7_readsHearth_63 (by decide) ?_
        refine e_goto 68 dX7_readsHearth_64 (by decide) ?_
        refine e_iconst (nI 1) dX7_readsHearth_68 (by decide) ?_
        refine e_cv dX7_readsHearth_69 vX7_123 (m_X7_stop hb hn hT hB0 t (s1 := s1) (fun a e => (hl a e).2.2.2.2.1) (jb_tN c_60).symm) (by decide) rfl rfl (Nat.le_of_ble_eq_true rfl) jBud0 rfl hO ?_
        rintro _ h1 ⟨t, y, rfl⟩
        clear hO F0 F1 F8 F9 hl hr hU E
        obtain ⟨s1, hO, ⟨F0, F1, F8, F9⟩, hl, hr, hU, E⟩ := id t
        refine e_pop dX7_readsHearth_72 rfl ?_
        refine e_al0 dX7_readsHearth_73 ?_
        refine e_cv dX7_readsHearth_74 vX7_113 (m_X7_isWell hn t) (by decide) rfl rfl (Nat.le_of_ble_eq_true rfl) jBud0 rfl hO ?_
        rintro _ _ ⟨rfl, rfl⟩
        refine e_if_eqB 97 dX7_readsHearth_77 (by decide) (fun c_77 => ?_) (fun c_77 => ?_)
        · exact e_ret hX dX7_readsHearth_97 (by
            refine ⟨rfl, ?_⟩
            rw [if_neg (show ¬ u 2 < 8 by omega), if_neg (show ¬ u 2 < 8 by omega)]
            exact t.cg (by rw [s_K, if_neg (by omega)]; rfl) rfl) (fun z => z)
        · exact absurd c_77 (by rw [s_K, if_neg (by omega)]; exact Bool.false_ne_true)
    · omega
  · refine e_iconst (nI 1) dX7_readsHearth_12 (by decide) ?_
    refine e_goto 17 dX7_readsHearth_13 (by decide) ?_
    refine e_iconst (nI 3) dX7_readsHearth_17 (by decide) ?_
    refine e_cv dX7_readsHearth_18 vX7_123 (m_X7_takes hb hn hT hB0 t (P := u 2 < 8) (fun _ _ => (jb_tN c_9).symm) (fun b e _ => by cases e; omega)) (by decide) rfl rfl (Nat.le_of_ble_eq_true rfl) jBud0 rfl hO ?_
    rintro _ h1 ⟨rfl, t⟩
    clear hO F0 F1 F8 F9 hl hr hU E
    obtain ⟨s1, hO, ⟨F0, F1, F8, F9⟩, hl, hr, hU, E⟩ := id t
    refine e_pop dX7_readsHearth_21 rfl ?_
    refine e_iconst (nI 5) dX7_readsHearth_22 (by decide) ?_
    refine e_al0 dX7_readsHearth_23 ?_
    refine e_get dX7_readsHearth_24 fX7_28 hO rfl ?_
    refine e_iconst (nI 2) dX7_readsHearth_27 (by decide) ?_
    refine e_ialdN dX7_readsHearth_28 hU (by omega) (by decide) ?_
    refine e_bipush (nI 8) dX7_readsHearth_29 (by decide) ?_
    refine e_ic_geN 43 dX7_readsHearth_31 (by decide) (by omega) (by omega) (fun c_31 => ?_) (fun c_31 => ?_)
    · omega
    · refine e_al0 dX7_readsHearth_34 ?_
      refine e_get dX7_readsHearth_35 fX7_28 hO rfl ?_
      refine e_iconst (nI 2) dX7_readsHearth_38 (by decide) ?_
      refine e_ialdN dX7_readsHearth_39 hU (by omega) (by decide) ?_
      refine e_goto 44 dX7_readsHearth_40 (by decide) ?_
      refine e_iaddN dX7_readsHearth_44 ?_
      refine e_is1 dX7_readsHearth_45 rfl ?_
      refine e_al0 dX7_readsHearth_46 ?_
      refine e_iconst (nI 0) dX7_readsHearth_47 (by decide) ?_
      refine e_bipush (nI 20) dX7_readsHearth_48 (by decide) ?_
      refine e_cv dX7_readsHearth_50 vX7_127 (m_X7_figure hb hn hT hB0 t (by omega) (by omega)) (by decide) rfl rfl (Nat.le_of_ble_eq_true rfl) jBud0 rfl hO ?_
      rintro _ h1 ⟨rfl, t⟩
      clear hO F0 F1 F8 F9 hl hr hU E
      obtain ⟨s1, hO, ⟨F0, F1, F8, F9⟩, hl, hr, hU, E⟩ := id t
      refine e_is2 dX7_readsHearth_53 rfl ?_
      refine e_al0 dX7_readsHearth_54 ?_
      refine e_al0 dX7_readsHearth_55 ?_
      refine e_get dX7_readsHearth_56 fX7_107 hO rfl ?_
      refine e_iconst (nI 4) dX7_readsHearth_59 (by decide) ?_
      refine e_ic_ne 67 dX7_readsHearth_60 (by decide) (fun c_60 => ?_) (fun c_60 => ?_)
      · refine e_iconst (nI 0) dX7_readsHearth_67 (by decide) ?_
        refine e_iconst (nI 1) dX7_readsHearth_68 (by decide) ?_
        refine e_cv dX7_readsHearth_69 vX7_123 (m_X7_stop hb hn hT hB0 t (s1 := s1) (fun a e => (hl a e).2.2.2.2.1) (jb_fN c_60).symm) (by decide) rfl rfl (Nat.le_of_ble_eq_true rfl) jBud0 rfl hO ?_
        rintro _ h1 ⟨t, y, rfl⟩
        clear hO F0 F1 F8 F9 hl hr hU E
        obtain ⟨s1, hO, ⟨F0, F1, F8, F9⟩, hl, hr, hU, E⟩ := id t
        refine e_pop dX7_readsHearth_72 rfl ?_
        refine e_al0 dX7_readsHearth_73 ?_
        refine e_cv dX7_readsHearth_74 vX7_113 (m_X7_isWell hn t) (by decide) rfl rfl (Nat.le_of_ble_eq_true rfl) jBud0 rfl hO ?_
        rintro _ _ ⟨rfl, rfl⟩
        refine e_if_eqB 97 dX7_readsHearth_77 (by decide) (fun c_77 => ?_) (fun c_77 => ?_)
        · have ex : s_B n T 59 (s_N n T 0 20 (s_K n T (u 2 < 8) 3 (.inl a))).2 = (s_h1 n T a).2 := by rw [s_K, if_pos c_9, nx_b (fun y => by have := y.2; have := hf.2; omega) hf.1]; rfl
          have ev : (s_N n T 0 20 (s_K n T (u 2 < 8) 3 (.inl a))).1 = (s_h1 n T a).1 := by rw [s_K, if_pos c_9, nx_b (fun y => by have := y.2; have := hf.2; omega) hf.1]; rfl
          exact e_ret hX dX7_readsHearth_97 (by
            refine ⟨rfl, ?_⟩
            rw [if_pos c_9, if_pos c_9]
            exact t.cg ex (by rw [if_neg (by rw [← ex]; exact c_77)])) (fun z => z)
        · have ex : s_B n T 59 (s_N n T 0 20 (s_K n T (u 2 < 8) 3 (.inl a))).2 = (s_h1 n T a).2 := by rw [s_K, if_pos c_9, nx_b (fun y => by have := y.2; have := hf.2; omega) hf.1]; rfl
          have ev : (s_N n T 0 20 (s_K n T (u 2 < 8) 3 (.inl a))).1 = (s_h1 n T a).1 := by rw [s_K, if_pos c_9, nx_b (fun y => by have := y.2; have := hf.2; omega) hf.1]; rfl
          refine e_al0 dX7_readsHearth_80 ?_
          refine e_get dX7_readsHearth_81 fX7_28 hO rfl ?_
          refine e_il1 dX7_readsHearth_84 ?_
          refine e_il2 dX7_readsHearth_85 ?_
          refine e_iastN dX7_readsHearth_86 hU (by omega) (by decide) ?_
          refine e_abs (fun h2 hh => ?_)
          replace t := t.hs hh
          clear hh hO F0 F1 F8 F9 hl hr hU E
          obtain ⟨s1, hO, ⟨F0, F1, F8, F9⟩, hl, hr, hU, E⟩ := id t
          refine e_al0 dX7_readsHearth_87 ?_
          refine e_get dX7_readsHearth_88 fX7_28 hO rfl ?_
          refine e_iconst (nI 2) dX7_readsHearth_91 (by decide) ?_
          refine e_dup2 dX7_readsHearth_92 rfl rfl ?_
          refine e_ialdN dX7_readsHearth_93 hU (by omega) (by decide) ?_
          rw [up_ne (by omega)]
          refine e_iconst (nI 1) dX7_readsHearth_94 (by decide) ?_
          refine e_iaddN dX7_readsHearth_95 ?_
          refine e_iastN dX7_readsHearth_96 hU (by omega) (by decide) ?_
          refine e_abs (fun h2 hh => ?_)
          replace t := t.hs hh
          clear hh hO F0 F1 F8 F9 hl hr hU E
          obtain ⟨s1, hO, ⟨F0, F1, F8, F9⟩, hl, hr, hU, E⟩ := id t
          exact e_ret hX dX7_readsHearth_97 (by
            refine ⟨rfl, ?_⟩
            rw [if_pos c_9, if_pos c_9]
            exact t.cg ex (by rw [if_pos (by rw [← ex]; exact c_77), ev])) (fun z => z)
      · refine e_iconst (nI 1) dX7_readsHearth_63 (by decide) ?_
        refine e_goto 68 dX7_readsHearth_64 (by decide) ?_
        refine e_iconst (nI 1) dX7_readsHearth_68 (by decide) ?_
        refine e_cv dX7_readsHearth_69 vX7_123 (m_X7_stop hb hn hT hB0 t (s1 := s1) (fun a e => (hl a e).2.2.2.2.1) (jb_tN c_60).symm) (by decide) rfl rfl (Nat.le_of_ble_eq_true rfl) jBud0 rfl hO ?_
        rintro _ h1 ⟨t, y, rfl⟩
        clear hO F0 F1 F8 F9 hl hr hU E
        obtain ⟨s1, hO, ⟨F0, F1, F8, F9⟩, hl, hr, hU, E⟩ := id t
        refine e_pop dX7_readsHearth_72 rfl ?_
        refine e_al0 dX7_readsHearth_73 ?_
        refine e_cv dX7_readsHearth_74 vX7_113 (m_X7_isWell hn t) (by decide) rfl rfl (Nat.le_of_ble_eq_true rfl) jBud0 rfl hO ?_
        rintro _ _ ⟨rfl, rfl⟩
        refine e_if_eqB 97 dX7_readsHearth_77 (by decide) (fun c_77 => ?_) (fun c_77 => ?_)
        · have ex : s_B n T 59 (s_N n T 0 20 (s_K n T (u 2 < 8) 3 (.inl a))).2 = (s_h1 n T a).2 := by rw [s_K, if_pos c_9, nx_b (fun y => by have := y.2; have := hf.2; omega) hf.1]; rfl
          have ev : (s_N n T 0 20 (s_K n T (u 2 < 8) 3 (.inl a))).1 = (s_h1 n T a).1 := by rw [s_K, if_pos c_9, nx_b (fun y => by have := y.2; have := hf.2; omega) hf.1]; rfl
          exact e_ret hX dX7_readsHearth_97 (by
            refine ⟨rfl, ?_⟩
            rw [if_pos c_9, if_pos c_9]
            exact t.cg ex (by rw [if_neg (by rw [← ex]; exact c_77)])) (fun z => z)
        · have ex : s_B n T 59 (s_N n T 0 20 (s_K n T (u 2 < 8) 3 (.inl a))).2 = (s_h1 n T a).2 := by rw [s_K, if_pos c_9, nx_b (fun y => by have := y.2; have := hf.2; omega) hf.1]; rfl
          have ev : (s_N n T 0 20 (s_K n T (u 2 < 8) 3 (.inl a))).1 = (s_h1 n T a).1 := by rw [s_K, if_pos c_9, nx_b (fun y => by have := y.2; have := hf.2; omega) hf.1]; rfl
          refine e_al0 dX7_readsHearth_80 ?_
          refine e_get dX7_readsHearth_81 fX7_28 hO rfl ?_
          refine e_il1 dX7_readsHearth_84 ?_
          refine e_il2 dX7_readsHearth_85 ?_
          refine e_iastN dX7_readsHearth_86 hU (by omega) (by decide) ?_
          refine e_abs (fun h2 hh => ?_)
          replace t := t.hs hh
          clear hh hO F0 F1 F8 F9 hl hr hU E
          obtain ⟨s1, hO, ⟨F0, F1, F8, F9⟩, hl, hr, hU, E⟩ := id t
          refine e_al0 dX7_readsHearth_87 ?_
          refine e_get dX7_readsHearth_88 fX7_28 hO rfl ?_
          refine e_iconst (nI 2) dX7_readsHearth_91 (by decide) ?_
          refine e_dup2 dX7_readsHearth_92 rfl rfl ?_
          refine e_ialdN dX7_readsHearth_93 hU (by omega) (by decide) ?_
          rw [up_ne (by omega)]
          refine e_iconst (nI 1) dX7_readsHearth_94 (by decide) ?_
          refine e_iaddN dX7_readsHearth_95 ?_
          refine e_iastN dX7_readsHearth_96 hU (by omega) (by decide) ?_
          refine e_abs (fun h2 hh => ?_)
          replace t := t.hs hh
          clear hh hO F0 F1 F8 F9 hl hr hU E
          obtain ⟨s1, hO, ⟨F0, F1, F8, F9⟩, hl, hr, hU, E⟩ := id t
          exact e_ret hX dX7_readsHearth_97 (by
            refine ⟨rfl, ?_⟩
            rw [if_pos c_9, if_pos c_9]
            exact t.cg ex (by rw [if_pos (by rw [← ex]; exact c_77), ev])) (fun z => z)
set_option maxRecDepth 100000 in
set_option maxHeartbeats 4000000 in
theorem m_X7_readsPair {h0 h : jH} {s : Nat → Int32} {n : Nat} {B T : Nat → Nat} (hb : ∀ i, i < n → B i = T i) (hn : n ≤ 100) (hT : ∀ i, i < n → T i ≤ 255) (hB0 : h0[223]? = some (jN 100 B)) {a : Nat} {u : hw} (t : rS h0 h s n T (.inl a) u) (hf : a < n ∧ 0 < s_kd (T a)) (h8 : u 2 ≤ 8) (h2 : 1 < u 2) (h7 : u 3 ≤ 7) : jM yX7_readsPair cX7_readsPair 6 (none : Option Jvm.ClassFile.FieldType) 5 none [.ref 218] h (fun v h' => v = none ∧ rS h0 h' s n T (if u 3 < 7 then s_p4 n T (u 2) a else .inr (3, a)) (if u 3 < 7 then if (s_p4 n T (u 2) a).isLeft = true then s_pw u (s_kd (T a)) (s_p1 n T (u 2) a).1 (s_p2 n T (u 2) a).1 (s_p3 n T (u 2) a).1 else u else u)) := by
  obtain ⟨s1, hO, ⟨F0, F1, F8, F9⟩, hl, hr, hU, E⟩ := id t
  have t1a := (tk_l (T := T)).mpr ⟨hf.1, kd_l hf.2⟩
  refine jM.ofF (by decide +kernel) rfl (Nat.le_of_ble_eq_true rfl) (fun X hX hI => ?_)
  show jV cX7_readsPair RX7 5 X none 0 [some (.ref 218), none, none, none, none, none] [] h
  refine e_al0 dX7_readsPair_0 ?_
  refine e_get dX7_readsPair_1 fX7_104 hO rfl ?_
  rw [((hl a rfl).2.2.2.2.2 (by omega)).1, vl_b (fun y => by have := y.2; have := (kd_l hf.2).1; omega) hf.1]
  refine e_cs dX7_readsPair_4 sX7_130 (m_X7_kindOf (x := T a) (hT a hf.1)) (by decide) rfl rfl (Nat.le_of_ble_eq_true rfl) jBud0 ?_
  rintro _ _ ⟨rfl, rfl⟩
  refine e_is1 dX7_readsPair_7 rfl ?_
  refine e_al0 dX7_readsPair_8 ?_
  refine e_al0 dX7_readsPair_9 ?_
  refine e_get dX7_readsPair_10 fX7_28 hO rfl ?_
  refine e_iconst (nI 3) dX7_readsPair_13 (by decide) ?_
  refine e_ialdN dX7_readsPair_14 hU (by omega) (by decide) ?_
  refine e_bipush (nI 7) dX7_readsPair_15 (by decide) ?_
  refine e_ic_geN 24 dX7_readsPair_17 (by decide) (by omega) (by omega) (fun c_17 => ?_) (fun c_17 => ?_)
  · refine e_iconst (nI 0) dX7_readsPair_24 (by decide) ?_
    refine e_iconst (nI 3) dX7_readsPair_25 (by decide) ?_
    refine e_cv dX7_readsPair_26 vX7_123 (m_X7_takes hb hn hT hB0 t (P := u 3 < 7) (fun _ _ => (jb_fN (by omega)).symm) (fun b e _ => by cases e; omega)) (by decide) rfl rfl (Nat.le_of_ble_eq_true rfl) jBud0 rfl hO ?_
    rintro _ h1 ⟨rfl, t⟩
    clear hO F0 F1 F8 F9 hl hr hU E
    obtain ⟨s1, hO, ⟨F0, F1, F8, F9⟩, hl, hr, hU, E⟩ := id t
    refine e_pop dX7_readsPair_29 rfl ?_
    refine e_bipush (nI 13) dX7_readsPair_30 (by decide) ?_
    refine e_iconst (nI 4) dX7_readsPair_32 (by decide) ?_
    refine e_al0 dX7_readsPair_33 ?_
    refine e_get dX7_readsPair_34 fX7_28 hO rfl ?_
    refine e_iconst (nI 3) dX7_readsPair_37 (by decide) ?_
    refine e_ialdN dX7_readsPair_38 hU (by omega) (by decide) ?_
    refine e_bipush (nI 7) dX7_readsPair_39 (by decide) ?_
    refine e_ic_geN 53 dX7_readsPair_41 (by decide) (by omega) (by omega) (fun c_41 => ?_) (fun c_41 => ?_)
    · refine e_iconst (nI 0) dX7_readsPair_53 (by decide) ?_
      refine e_imulN dX7_readsPair_54 ?_
      refine e_iaddN dX7_readsPair_55 ?_
      refine e_is2 dX7_readsPair_56 rfl ?_
      refine e_al0 dX7_readsPair_57 ?_
      refine e_iconst (nI 0) dX7_readsPair_58 (by decide) ?_
      refine e_bipush (nI 40) dX7_readsPair_59 (by decide) ?_
      refine e_cv dX7_readsPair_61 vX7_127 (m_X7_figure hb hn hT hB0 t (by omega) (by omega)) (by decide) rfl rfl (Nat.le_of_ble_eq_true rfl) jBud0 rfl hO ?_
      rintro _ h1 ⟨rfl, t⟩
      clear hO F0 F1 F8 F9 hl hr hU E
      obtain ⟨s1, hO, ⟨F0, F1, F8, F9⟩, hl, hr, hU, E⟩ := id t
      refine e_is3 dX7_readsPair_64 rfl ?_
      refine e_al0 dX7_readsPair_65 ?_
      refine e_iconst (nI 0) dX7_readsPair_66 (by decide) ?_
      refine e_al0 dX7_readsPair_67 ?_
      refine e_get dX7_readsPair_68 fX7_28 hO rfl ?_
      refine e_iconst (nI 2) dX7_readsPair_71 (by decide) ?_
      refine e_ialdN dX7_readsPair_72 hU (by omega) (by decide) ?_
      refine e_iconst (nI 1) dX7_readsPair_73 (by decide) ?_
      refine e_isubN dX7_readsPair_74 (by omega) ?_
      refine e_cv dX7_readsPair_75 vX7_133 (m_X7_follows hb hn hT hB0 t (by omega) (by omega)) (by decide) rfl rfl (Nat.le_of_ble_eq_true rfl) jBud0 rfl hO ?_
      rintro _ h1 ⟨rfl, t⟩
      clear hO F0 F1 F8 F9 hl hr hU E
      obtain ⟨s1, hO, ⟨F0, F1, F8, F9⟩, hl, hr, hU, E⟩ := id t
      refine e_is4 dX7_readsPair_78 rfl ?_
      refine e_al0 dX7_readsPair_80 ?_
      refine e_iconst (nI 0) dX7_readsPair_81 (by decide) ?_
      refine e_iconst (nI 1) dX7_readsPair_82 (by decide) ?_
      refine e_cv dX7_readsPair_83 vX7_133 (m_X7_follows hb hn hT hB0 t (by omega) (by omega)) (by decide) rfl rfl (Nat.le_of_ble_eq_true rfl) jBud0 rfl hO ?_
      rintro _ h1 ⟨rfl, t⟩
      clear hO F0 F1 F8 F9 hl hr hU E
      obtain ⟨s1, hO, ⟨F0, F1, F8, F9⟩, hl, hr, hU, E⟩ := id t
      refine e_is5 dX7_readsPair_86 rfl ?_
      refine e_al0 dX7_readsPair_88 ?_
      refine e_al0 dX7_readsPair_89 ?_
      refine e_get dX7_readsPair_90 fX7_107 hO rfl ?_
      refine e_iconst (nI 4) dX7_readsPair_93 (by decide) ?_
      refine e_ic_ne 101 dX7_readsPair_94 (by decide) (fun c_94 => ?_) (fun c_94 => ?_)
      · refine e_iconst (nI 0) dX7_readsPair_101 (by decide) ?_
        refine e_iconst (nI 1) dX7_readsPair_102 (by decide) ?_
        refine e_cv dX7_readsPair_103 vX7_123 (m_X7_stop hb hn hT hB0 t (s1 := s1) (fun a e => (hl a e).2.2.2.2.1) (jb_fN c_94).symm) (by decide) rfl rfl (Nat.le_of_ble_eq_true rfl) jBud0 rfl hO ?_
        rintro _ h1 ⟨t, y, rfl⟩
        clear hO F0 F1 F8 F9 hl hr hU E
        obtain ⟨s1, hO, ⟨F0, F1, F8, F9⟩, hl, hr, hU, E⟩ := id t
        refine e_pop dX7_readsPair_106 rfl ?_
        refine e_al0 dX7_readsPair_107 ?_
        refine e_cv dX7_readsPair_108 vX7_113 (m_X7_isWell hn t) (by decide) rfl rfl (Nat.le_of_ble_eq_true rfl) jBud0 rfl hO ?_
        rintro _ _ ⟨rfl, rfl⟩
        refine e_if_eqB 160 dX7_readsPair_111 (by decide) (fun c_111 => ?_) (fun c_111 => ?_)
        · exact e_ret hX dX7_readsPair_160 (by
            refine ⟨rfl, ?_⟩
            rw [if_neg (show ¬ u 3 < 7 by omega), if_neg (show ¬ u 3 < 7 by omega)]
            exact t.cg (by rw [s_K, if_neg (by omega)]; rfl) rfl) (fun z => z)
        · exact absurd c_111 (by rw [s_K, if_neg (by omega)]; exact Bool.false_ne_true)
      · refine e_iconst (nI 1) dX7_readsPair_97 (by decide) ?_
        refine e_goto 102 dX7_readsPair_98 (by decide) ?_
        refine e_iconst (nI 1) dX7_readsPair_102 (by decide) ?_
        refine e_cv dX7_readsPair_103 vX7_123 (m_X7_stop hb hn hT hB0 t (s1 := s1) (fun a e => (hl a e).2.2.2.2.1) (jb_tN c_94).symm) (by decide) rfl rfl (Nat.le_of_ble_eq_true rfl) jBud0 rfl hO ?_
        rintro _ h1 ⟨t, y, rfl⟩
        clear hO F0 F1 F8 F9 hl hr hU E
        obtain ⟨s1, hO, ⟨F0, F1, F8, F9⟩, hl, hr, hU, E⟩ := id t
        refine e_pop dX7_readsPair_106 rfl ?_
        refine e_al0 dX7_readsPair_107 ?_
        refine e_cv dX7_readsPair_108 vX7_113 (m_X7_isWell hn t) (by decide) rfl rfl (Nat.le_of_ble_eq_true rfl) jBud0 rfl hO ?_
        rintro _ _ ⟨rfl, rfl⟩
        refine e_if_eqB 160 dX7_readsPair_111 (by decide) (fun c_111 => ?_) (fun c_111 => ?_)
        · exact e_ret hX dX7_readsPair_160 (by
            refine ⟨rfl, ?_⟩
            rw [if_neg (show ¬ u 3 < 7 by omega), if_neg (show ¬ u 3 < 7 by omega)]
            exact t.cg (by rw [s_K, if_neg (by omega)]; rfl) rfl) (fun z => z)
        · exact absurd c_111 (by rw [s_K, if_neg (by omega)]; exact Bool.false_ne_true)
    · omega
  · refine e_iconst (nI 1) dX7_readsPair_20 (by decide) ?_
    refine e_goto 25 dX7_readsPair_21 (by decide) ?_
    refine e_iconst (nI 3) dX7_readsPair_25 (by decide) ?_
    refine e_cv dX7_readsPair_26 vX7_123 (m_X7_takes hb hn hT hB0 t (P := u 3 < 7) (fun _ _ => (jb_tN c_17).symm) (fun b e _ => by cases e; omega)) (by decide) rfl rfl (Nat.le_of_ble_eq_true rfl) jBud0 rfl hO ?_
    rintro _ h1 ⟨rfl, t⟩
    clear hO F0 F1 F8 F9 hl hr hU E
    obtain ⟨s1, hO, ⟨F0, F1, F8, F9⟩, hl, hr, hU, E⟩ := id t
    refine e_pop dX7_readsPair_29 rfl ?_
    refine e_bipush (nI 13) dX7_readsPair_30 (by decide) ?_
    refine e_iconst (nI 4) dX7_readsPair_32 (by decide) ?_
    refine e_al0 dX7_readsPair_33 ?_
    refine e_get dX7_readsPair_34 fX7_28 hO rfl ?_
    refine e_iconst (nI 3) dX7_readsPair_37 (by decide) ?_
    refine e_ialdN dX7_readsPair_38 hU (by omega) (by decide) ?_
    refine e_bipush (nI 7) dX7_readsPair_39 (by decide) ?_
    refine e_ic_geN 53 dX7_readsPair_41 (by decide) (by omega) (by omega) (fun c_41 => ?_) (fun c_41 => ?_)
    · omega
    · refine e_al0 dX7_readsPair_44 ?_
      refine e_get dX7_readsPair_45 fX7_28 hO rfl ?_
      refine e_iconst (nI 3) dX7_readsPair_48 (by decide) ?_
      refine e_ialdN dX7_readsPair_49 hU (by omega) (by decide) ?_
      refine e_goto 54 dX7_readsPair_50 (by decide) ?_
      refine e_imulN dX7_readsPair_54 ?_
      refine e_iaddN dX7_readsPair_55 ?_
      refine e_is2 dX7_readsPair_56 rfl ?_
      refine e_al0 dX7_readsPair_57 ?_
      refine e_iconst (nI 0) dX7_readsPair_58 (by decide) ?_
      refine e_bipush (nI 40) dX7_readsPair_59 (by decide) ?_
      refine e_cv dX7_readsPair_61 vX7_127 (m_X7_figure hb hn hT hB0 t (by omega) (by omega)) (by decide) rfl rfl (Nat.le_of_ble_eq_true rfl) jBud0 rfl hO ?_
      rintro _ h1 ⟨rfl, t⟩
      clear hO F0 F1 F8 F9 hl hr hU E
      obtain ⟨s1, hO, ⟨F0, F1, F8, F9⟩, hl, hr, hU, E⟩ := id t
      refine e_is3 dX7_readsPair_64 rfl ?_
      refine e_al0 dX7_readsPair_65 ?_
      refine e_iconst (nI 0) dX7_readsPair_66 (by decide) ?_
      refine e_al0 dX7_readsPair_67 ?_
      refine e_get dX7_readsPair_68 fX7_28 hO rfl ?_
      refine e_iconst (nI 2) dX7_readsPair_71 (by decide) ?_
      refine e_ialdN dX7_readsPair_72 hU (by omega) (by decide) ?_
      refine e_iconst (nI 1) dX7_readsPair_73 (by decide) ?_
      refine e_isubN dX7_readsPair_74 (by omega) ?_
      refine e_cv dX7_readsPair_75 vX7_133 (m_X7_follows hb hn hT hB0 t (by omega) (by omega)) (by decide) rfl rfl (Nat.le_of_ble_eq_true rfl) jBud0 rfl hO ?_
      rintro _ h1 ⟨rfl, t⟩
      clear hO F0 F1 F8 F9 hl hr hU E
      obtain ⟨s1, hO, ⟨F0, F1, F8, F9⟩, hl, hr, hU, E⟩ := id t
      refine e_is4 dX7_readsPair_78 rfl ?_
      refine e_al0 dX7_readsPair_80 ?_
      refine e_iconst (nI 0) dX7_readsPair_81 (by decide) ?_
      refine e_iconst (nI 1) dX7_readsPair_82 (by decide) ?_
      refine e_cv dX7_readsPair_83 vX7_133 (m_X7_follows hb hn hT hB0 t (by omega) (by omega)) (by decide) rfl rfl (Nat.le_of_ble_eq_true rfl) jBud0 rfl hO ?_
      rintro _ h1 ⟨rfl, t⟩
      clear hO F0 F1 F8 F9 hl hr hU E
      obtain ⟨s1, hO, ⟨F0, F1, F8, F9⟩, hl, hr, hU, E⟩ := id t
      refine e_is5 dX7_readsPair_86 rfl ?_
      refine e_al0 dX7_readsPair_88 ?_
      refine e_al0 dX7_readsPair_89 ?_
      refine e_get dX7_readsPair_90 fX7_107 hO rfl ?_
      refine e_iconst (nI 4) dX7_readsPair_93 (by decide) ?_
      refine e_ic_ne 101 dX7_readsPair_94 (by decide) (fun c_94 => ?_) (fun c_94 => ?_)
      · refine e_iconst (nI 0) dX7_readsPair_101 (by decide) ?_
        refine e_iconst (nI 1) dX7_readsPair_102 (by decide) ?_
        refine e_cv dX7_readsPair_103 vX7_123 (m_X7_stop hb hn hT hB0 t (s1 := s1) (fun a e => (hl a e).2.2.2.2.1) (jb_fN c_94).symm) (by decide) rfl rfl (Nat.le_of_ble_eq_true rfl) jBud0 rfl hO ?_
        rintro _ h1 ⟨t, y, rfl⟩
        clear hO F0 F1 F8 F9 hl hr hU E
        obtain ⟨s1, hO, ⟨F0, F1, F8, F9⟩, hl, hr, hU, E⟩ := id t
        refine e_pop dX7_readsPair_106 rfl ?_
        refine e_al0 dX7_readsPair_107 ?_
        refine e_cv dX7_readsPair_108 vX7_113 (m_X7_isWell hn t) (by decide) rfl rfl (Nat.le_of_ble_eq_true rfl) jBud0 rfl hO ?_
        rintro _ _ ⟨rfl, rfl⟩
        refine e_if_eqB 160 dX7_readsPair_111 (by decide) (fun c_111 => ?_) (fun c_111 => ?_)
        · have ek : (s_K n T (u 3 < 7) 3 (.inl a)) = .inl (a + 1) := by rw [s_K, if_pos c_17, nx_b (fun y => by have := y.2; have := (kd_l hf.2).1; omega) hf.1]
          have ev1 : (s_N n T 0 40 (s_K n T (u 3 < 7) 3 (.inl a))).1 = (s_p1 n T (u 2) a).1 := by rw [ek]; rfl
          have ev2 : (s_N n T 0 (u 2 - 1) (s_B n T 44 (s_N n T 0 40 (s_K n T (u 3 < 7) 3 (.inl a))).2)).1 = (s_p2 n T (u 2) a).1 := by rw [ek]; rfl
          have ev3 : (s_N n T 0 1 (s_B n T 44 (s_N n T 0 (u 2 - 1) (s_B n T 44 (s_N n T 0 40 (s_K n T (u 3 < 7) 3 (.inl a))).2)).2)).1 = (s_p3 n T (u 2) a).1 := by rw [ek]; rfl
          have ex : s_B n T 59 (s_N n T 0 1 (s_B n T 44 (s_N n T 0 (u 2 - 1) (s_B n T 44 (s_N n T 0 40 (s_K n T (u 3 < 7) 3 (.inl a))).2)).2)).2 = s_p4 n T (u 2) a := by rw [ek]; rfl
          exact e_ret hX dX7_readsPair_160 (by
            refine ⟨rfl, ?_⟩
            rw [if_pos c_17, if_pos c_17]
            exact t.cg ex (by rw [if_neg (by rw [← ex]; exact c_111)])) (fun z => z)
        · have ek : (s_K n T (u 3 < 7) 3 (.inl a)) = .inl (a + 1) := by rw [s_K, if_pos c_17, nx_b (fun y => by have := y.2; have := (kd_l hf.2).1; omega) hf.1]
          have ev1 : (s_N n T 0 40 (s_K n T (u 3 < 7) 3 (.inl a))).1 = (s_p1 n T (u 2) a).1 := by rw [ek]; rfl
          have ev2 : (s_N n T 0 (u 2 - 1) (s_B n T 44 (s_N n T 0 40 (s_K n T (u 3 < 7) 3 (.inl a))).2)).1 = (s_p2 n T (u 2) a).1 := by rw [ek]; rfl
          have ev3 : (s_N n T 0 1 (s_B n T 44 (s_N n T 0 (u 2 - 1) (s_B n T 44 (s_N n T 0 40 (s_K n T (u 3 < 7) 3 (.inl a))).2)).2)).1 = (s_p3 n T (u 2) a).1 := by rw [ek]; rfl
          have ex : s_B n T 59 (s_N n T 0 1 (s_B n T 44 (s_N n T 0 (u 2 - 1) (s_B n T 44 (s_N n T 0 40 (s_K n T (u 3 < 7) 3 (.inl a))).2)).2)).2 = s_p4 n T (u 2) a := by rw [ek]; rfl
          refine e_al0 dX7_readsPair_114 ?_
          refine e_get dX7_readsPair_115 fX7_28 hO rfl ?_
          refine e_il2 dX7_readsPair_118 ?_
          refine e_il1 dX7_readsPair_119 ?_
          refine e_iastN dX7_readsPair_120 hU (by omega) (by decide) ?_
          refine e_abs (fun h2 hh => ?_)
          replace t := t.hs hh
          clear hh hO F0 F1 F8 F9 hl hr hU E
          obtain ⟨s1, hO, ⟨F0, F1, F8, F9⟩, hl, hr, hU, E⟩ := id t
          refine e_al0 dX7_readsPair_121 ?_
          refine e_get dX7_readsPair_122 fX7_28 hO rfl ?_
          refine e_il2 dX7_readsPair_125 ?_
          refine e_iconst (nI 1) dX7_readsPair_126 (by decide) ?_
          refine e_iaddN dX7_readsPair_127 ?_
          refine e_il3 dX7_readsPair_128 ?_
          refine e_iastN dX7_readsPair_129 hU (by omega) (by decide) ?_
          refine e_abs (fun h2 hh => ?_)
          replace t := t.hs hh
          clear hh hO F0 F1 F8 F9 hl hr hU E
          obtain ⟨s1, hO, ⟨F0, F1, F8, F9⟩, hl, hr, hU, E⟩ := id t
          refine e_al0 dX7_readsPair_130 ?_
          refine e_get dX7_readsPair_131 fX7_28 hO rfl ?_
          refine e_il2 dX7_readsPair_134 ?_
          refine e_iconst (nI 2) dX7_readsPair_135 (by decide) ?_
          refine e_iaddN dX7_readsPair_136 ?_
          refine e_il4 dX7_readsPair_137 ?_
          refine e_iastN dX7_readsPair_139 hU (by omega) (by decide) ?_
          refine e_abs (fun h2 hh => ?_)
          replace t := t.hs hh
          clear hh hO F0 F1 F8 F9 hl hr hU E
          obtain ⟨s1, hO, ⟨F0, F1, F8, F9⟩, hl, hr, hU, E⟩ := id t
          refine e_al0 dX7_readsPair_140 ?_
          refine e_get dX7_readsPair_141 fX7_28 hO rfl ?_
          refine e_il2 dX7_readsPair_144 ?_
          refine e_iconst (nI 3) dX7_readsPair_145 (by decide) ?_
          refine e_iaddN dX7_readsPair_146 ?_
          refine e_il5 dX7_readsPair_147 ?_
          refine e_iastN dX7_readsPair_149 hU (by omega) (by decide) ?_
          refine e_abs (fun h2 hh => ?_)
          replace t := t.hs hh
          clear hh hO F0 F1 F8 F9 hl hr hU E
          obtain ⟨s1, hO, ⟨F0, F1, F8, F9⟩, hl, hr, hU, E⟩ := id t
          refine e_al0 dX7_readsPair_150 ?_
          refine e_get dX7_readsPair_151 fX7_28 hO rfl ?_
          refine e_iconst (nI 3) dX7_readsPair_154 (by decide) ?_
          refine e_dup2 dX7_readsPair_155 rfl rfl ?_
          refine e_ialdN dX7_readsPair_156 hU (by omega) (by decide) ?_
          rw [up_ne (by omega), up_ne (by omega), up_ne (by omega), up_ne (by omega)]
          refine e_iconst (nI 1) dX7_readsPair_157 (by decide) ?_
          refine e_iaddN dX7_readsPair_158 ?_
          refine e_iastN dX7_readsPair_159 hU (by omega) (by decide) ?_
          refine e_abs (fun h2 hh => ?_)
          replace t := t.hs hh
          clear hh hO F0 F1 F8 F9 hl hr hU E
          obtain ⟨s1, hO, ⟨F0, F1, F8, F9⟩, hl, hr, hU, E⟩ := id t
          exact e_ret hX dX7_readsPair_160 (by
            refine ⟨rfl, ?_⟩
            rw [if_pos c_17, if_pos c_17]
            exact t.cg ex (by rw [if_pos (by rw [← ex]; exact c_111), ← ev1, ← ev2, ← ev3]; rfl)) (fun z => z)
      · refine e_iconst (nI 1) dX7_readsPair_97 (by decide) ?_
        refine e_goto 102 dX7_readsPair_98 (by decide) ?_
        refine e_iconst (nI 1) dX7_readsPair_102 (by decide) ?_
        refine e_cv dX7_readsPair_103 vX7_123 (m_X7_stop hb hn hT hB0 t (s1 := s1) (fun a e => (hl a e).2.2.2.2.1) (jb_tN c_94).symm) (by decide) rfl rfl (Nat.le_of_ble_eq_true rfl) jBud0 rfl hO ?_
        rintro _ h1 ⟨t, y, rfl⟩
        clear hO F0 F1 F8 F9 hl hr hU E
        obtain ⟨s1, hO, ⟨F0, F1, F8, F9⟩, hl, hr, hU, E⟩ := id t
        refine e_pop dX7_readsPair_106 rfl ?_
        refine e_al0 dX7_readsPair_107 ?_
        refine e_cv dX7_readsPair_108 vX7_113 (m_X7_isWell hn t) (by decide) rfl rfl (Nat.le_of_ble_eq_true rfl) jBud0 rfl hO ?_
        rintro _ _ ⟨rfl, rfl⟩
        refine e_if_eqB 160 dX7_readsPair_111 (by decide) (fun c_111 => ?_) (fun c_111 => ?_)
        · have ek : (s_K n T (u 3 < 7) 3 (.inl a)) = .inl (a + 1) := by rw [s_K, if_pos c_17, nx_b (fun y => by have := y.2; have := (kd_l hf.2).1; omega) hf.1]
          have ev1 : (s_N n T 0 40 (s_K n T (u 3 < 7) 3 (.inl a))).1 = (s_p1 n T (u 2) a).1 := by rw [ek]; rfl
          have ev2 : (s_N n T 0 (u 2 - 1) (s_B n T 44 (s_N n T 0 40 (s_K n T (u 3 < 7) 3 (.inl a))).2)).1 = (s_p2 n T (u 2) a).1 := by rw [ek]; rfl
          have ev3 : (s_N n T 0 1 (s_B n T 44 (s_N n T 0 (u 2 - 1) (s_B n T 44 (s_N n T 0 40 (s_K n T (u 3 < 7) 3 (.inl a))).2)).2)).1 = (s_p3 n T (u 2) a).1 := by rw [ek]; rfl
          have ex : s_B n T 59 (s_N n T 0 1 (s_B n T 44 (s_N n T 0 (u 2 - 1) (s_B n T 44 (s_N n T 0 40 (s_K n T (u 3 < 7) 3 (.inl a))).2)).2)).2 = s_p4 n T (u 2) a := by rw [ek]; rfl
          exact e_ret hX dX7_readsPair_160 (by
            refine ⟨rfl, ?_⟩
            rw [if_pos c_17, if_pos c_17]
            exact t.cg ex (by rw [if_neg (by rw [← ex]; exact c_111)])) (fun z => z)
        · have ek : (s_K n T (u 3 < 7) 3 (.inl a)) = .inl (a + 1) := by rw [s_K, if_pos c_17, nx_b (fun y => by have := y.2; have := (kd_l hf.2).1; omega) hf.1]
          have ev1 : (s_N n T 0 40 (s_K n T (u 3 < 7) 3 (.inl a))).1 = (s_p1 n T (u 2) a).1 := by rw [ek]; rfl
          have ev2 : (s_N n T 0 (u 2 - 1) (s_B n T 44 (s_N n T 0 40 (s_K n T (u 3 < 7) 3 (.inl a))).2)).1 = (s_p2 n T (u 2) a).1 := by rw [ek]; rfl
          have ev3 : (s_N n T 0 1 (s_B n T 44 (s_N n T 0 (u 2 - 1) (s_B n T 44 (s_N n T 0 40 (s_K n T (u 3 < 7) 3 (.inl a))).2)).2)).1 = (s_p3 n T (u 2) a).1 := by rw [ek]; rfl
          have ex : s_B n T 59 (s_N n T 0 1 (s_B n T 44 (s_N n T 0 (u 2 - 1) (s_B n T 44 (s_N n T 0 40 (s_K n T (u 3 < 7) 3 (.inl a))).2)).2)).2 = s_p4 n T (u 2) a := by rw [ek]; rfl
          refine e_al0 dX7_readsPair_114 ?_
          refine e_get dX7_readsPair_115 fX7_28 hO rfl ?_
          refine e_il2 dX7_readsPair_118 ?_
          refine e_il1 dX7_readsPair_119 ?_
          refine e_iastN dX7_readsPair_120 hU (by omega) (by decide) ?_
          refine e_abs (fun h2 hh => ?_)
          replace t := t.hs hh
          clear hh hO F0 F1 F8 F9 hl hr hU E
          obtain ⟨s1, hO, ⟨F0, F1, F8, F9⟩, hl, hr, hU, E⟩ := id t
          refine e_al0 dX7_readsPair_121 ?_
          refine e_get dX7_readsPair_122 fX7_28 hO rfl ?_
          refine e_il2 dX7_readsPair_125 ?_
          refine e_iconst (nI 1) dX7_readsPair_126 (by decide) ?_
          refine e_iaddN dX7_readsPair_127 ?_
          refine e_il3 dX7_readsPair_128 ?_
          refine e_iastN dX7_readsPair_129 hU (by omega) (by decide) ?_
          refine e_abs (fun h2 hh => ?_)
          replace t := t.hs hh
          clear hh hO F0 F1 F8 F9 hl hr hU E
          obtain ⟨s1, hO, ⟨F0, F1, F8, F9⟩, hl, hr, hU, E⟩ := id t
          refine e_al0 dX7_readsPair_130 ?_
          refine e_get dX7_readsPair_131 fX7_28 hO rfl ?_
          refine e_il2 dX7_readsPair_134 ?_
          refine e_iconst (nI 2) dX7_readsPair_135 (by decide) ?_
          refine e_iaddN dX7_readsPair_136 ?_
          refine e_il4 dX7_readsPair_137 ?_
          refine e_iastN dX7_readsPair_139 hU (by omega) (by decide) ?_
          refine e_abs (fun h2 hh => ?_)
          replace t := t.hs hh
          clear hh hO F0 F1 F8 F9 hl hr hU E
          obtain ⟨s1, hO, ⟨F0, F1, F8, F9⟩, hl, hr, hU, E⟩ := id t
          refine e_al0 dX7_readsPair_140 ?_
          refine e_get dX7_readsPair_141 fX7_28 hO rfl ?_
          refine e_il2 dX7_readsPair_144 ?_
          refine e_iconst (nI 3) dX7_readsPair_145 (by decide) ?_
          refine e_iaddN dX7_readsPair_146 ?_
          refine e_il5 dX7_readsPair_147 ?_
          refine e_iastN dX7_readsPair_149 hU (by omega) (by decide) ?_
          refine e_abs (fun h2 hh => ?_)
          replace t := t.hs hh
          clear hh hO F0 F1 F8 F9 hl hr hU E
          obtain ⟨s1, hO, ⟨F0, F1, F8, F9⟩, hl, hr, hU, E⟩ := id t
          refine e_al0 dX7_readsPair_150 ?_
          refine e_get dX7_readsPair_151 fX7_28 hO rfl ?_
          refine e_iconst (nI 3) dX7_readsPair_154 (by decide) ?_
          refine e_dup2 dX7_readsPair_155 rfl rfl ?_
          refine e_ialdN dX7_readsPair_156 hU (by omega) (by decide) ?_
          rw [up_ne (by omega), up_ne (by omega), up_ne (by omega), up_ne (by omega)]
          refine e_iconst (nI 1) dX7_readsPair_157 (by decide) ?_
          refine e_iaddN dX7_readsPair_158 ?_
          refine e_iastN dX7_readsPair_159 hU (by omega) (by decide) ?_
          refine e_abs (fun h2 hh => ?_)
          replace t := t.hs hh
          clear hh hO F0 F1 F8 F9 hl hr hU E
          obtain ⟨s1, hO, ⟨F0, F1, F8, F9⟩, hl, hr, hU, E⟩ := id t
          exact e_ret hX dX7_readsPair_160 (by
            refine ⟨rfl, ?_⟩
            rw [if_pos c_17, if_pos c_17]
            exact t.cg ex (by rw [if_pos (by rw [← ex]; exact c_111), ← ev1, ← ev2, ← ev3]; rfl)) (fun z => z)
