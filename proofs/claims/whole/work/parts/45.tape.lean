set_option maxRecDepth 100000 in
set_option maxHeartbeats 4000000 in
theorem m_X5_refuse {h : jH} {n k : Nat} {a fk : Int32} (ht : cTp h n a fk) : jM yX5_refuse cX5_refuse 2 (some .boolean) 0 none [.ref 5, .int (nI k)] h (fun v h' => v = some (.int (nI 0)) ∧ h' = h.set 5 (jO 5 [.ref 6, .ref 13, .int (nI n), .int a, .int (nI k)])) := by
  refine jM.ofF (by decide +kernel) rfl (Nat.le_of_ble_eq_true rfl) (fun X hX hI => ?_)
  show jV cX5_refuse RX5 0 X none 0 [some (.ref 5), some (.int (nI k))] [] h
  refine e_al0 dX5_refuse_0 ?_
  refine e_il1 dX5_refuse_1 ?_
  refine e_put dX5_refuse_2 fX5_29 ht (Nat.le_of_ble_eq_true rfl) (fun g => ⟨rfl, rfl⟩) ?_
  refine e_iconst (nI 0) dX5_refuse_5 (by decide) ?_
  exact e_zret hX dX5_refuse_6 rfl (⟨rfl, rfl⟩) (fun z => z)
set_option maxRecDepth 100000 in
set_option maxHeartbeats 4000000 in
theorem m_X5_standsHere {h : jH} {n a : Nat} {fk : Int32} {B T : Nat → Nat} (ht : cTp h n (nI a) fk) (hB : h[13]? = some (jN 100 B)) (hb : ∀ i, i < n → B i = T i) (hn : n ≤ 100) (hT : ∀ i, i < n → T i ≤ 255) (ha : a ≤ n) {c : Nat} (hc : c < 1000) : jM yX5_standsHere cX5_standsHere 2 (some .boolean) 0 none [.ref 5, .int (nI c)] h (jRt (.int (jb (b_is n T c a))) h) := by
  refine jM.ofF (by decide +kernel) rfl (Nat.le_of_ble_eq_true rfl) (fun X hX hI => ?_)
  show jV cX5_standsHere RX5 0 X none 0 [some (.ref 5), some (.int (nI c))] [] h
  refine e_al0 dX5_standsHere_0 ?_
  refine e_get dX5_standsHere_1 fX5_26 ht rfl ?_
  refine e_al0 dX5_standsHere_4 ?_
  refine e_get dX5_standsHere_5 fX5_22 ht rfl ?_
  refine e_ic_geN 28 dX5_standsHere_8 (by decide) (by omega) (by omega) (fun c_8 => ?_) (fun c_8 => ?_)
  · refine e_iconst (nI 0) dX5_standsHere_28 (by decide) ?_
    exact e_zret hX dX5_standsHere_29 rfl (jRt_f (fun z => by have := z.1; have := z.2; omega)) (fun z => z)
  · refine e_al0 dX5_standsHere_11 ?_
    have ta := hT a (by omega)
    refine e_get dX5_standsHere_12 fX5_18 ht rfl ?_
    refine e_al0 dX5_standsHere_15 ?_
    refine e_get dX5_standsHere_16 fX5_26 ht rfl ?_
    refine e_ialdN dX5_standsHere_19 hB (by omega) (by decide) ?_
    rw [hb a (by omega)]
    refine e_il1 dX5_standsHere_20 ?_
    refine e_ic_neN 28 dX5_standsHere_21 (by decide) (by omega) (by omega) (fun c_21 => ?_) (fun c_21 => ?_)
    · refine e_iconst (nI 0) dX5_standsHere_28 (by decide) ?_
      exact e_zret hX dX5_standsHere_29 rfl (jRt_f (fun z => by have := z.1; have := z.2; omega)) (fun z => z)
    · refine e_iconst (nI 1) dX5_standsHere_24 (by decide) ?_
      refine e_goto 29 dX5_standsHere_25 (by decide) ?_
      exact e_zret hX dX5_standsHere_29 rfl (jRt_t ⟨by omega, c_21⟩) (fun z => z)
set_option maxRecDepth 100000 in
set_option maxHeartbeats 4000000 in
theorem m_X5_takeByte {h : jH} {n a : Nat} {fk : Int32} {B T : Nat → Nat} (ht : cTp h n (nI a) fk) (hB : h[13]? = some (jN 100 B)) (hb : ∀ i, i < n → B i = T i) (hn : n ≤ 100) (hT : ∀ i, i < n → T i ≤ 255) (ha : a ≤ n) {c : Nat} (hc : c < 1000) : jM yX5_takeByte cX5_takeByte 2 (some .boolean) 1 none [.ref 5, .int (nI c)] h (fun v h' => v = some (.int (jb (b_is n T c a))) ∧ h' = h.set 5 (jO 5 [.ref 6, .ref 13, .int (nI n), .int (nI (if b_is n T c a then a + 1 else a)), .int (if b_is n T c a then fk else nI 1)])) := by
  refine jM.ofF (by decide +kernel) rfl (Nat.le_of_ble_eq_true rfl) (fun X hX hI => ?_)
  show jV cX5_takeByte RX5 1 X none 0 [some (.ref 5), some (.int (nI c))] [] h
  refine e_al0 dX5_takeByte_0 ?_
  refine e_il1 dX5_takeByte_1 ?_
  refine e_cv dX5_takeByte_2 vX5_65 (m_X5_standsHere ht hB hb hn hT ha (by omega)) (by decide) rfl rfl (Nat.le_of_ble_eq_true rfl) jBud0 rfl ht ?_
  rintro _ _ ⟨rfl, rfl⟩
  refine e_if_neB 14 dX5_takeByte_5 (by decide) (fun c_5 => ?_) (fun c_5 => ?_)
  · refine e_al0 dX5_takeByte_14 ?_
    refine e_dup dX5_takeByte_15 rfl ?_
    refine e_get dX5_takeByte_16 fX5_26 ht rfl ?_
    refine e_iconst (nI 1) dX5_takeByte_19 (by decide) ?_
    refine e_iaddN dX5_takeByte_20 ?_
    refine e_put dX5_takeByte_21 fX5_26 ht (Nat.le_of_ble_eq_true rfl) (fun g => ⟨rfl, rfl⟩) ?_
    refine e_iconst (nI 1) dX5_takeByte_24 (by decide) ?_
    exact e_zret hX dX5_takeByte_25 rfl (⟨by rw [jb_tN c_5], by rw [if_pos c_5, if_pos c_5]; rfl⟩) (fun z => z)
  · refine e_al0 dX5_takeByte_8 ?_
    refine e_iconst (nI 1) dX5_takeByte_9 (by decide) ?_
    refine e_cv dX5_takeByte_10 vX5_68 (m_X5_refuse ht) (by decide) rfl rfl (Nat.le_of_ble_eq_true rfl) jBud0 rfl ht ?_
    rintro _ h1 ⟨rfl, hh⟩
    exact e_zret hX dX5_takeByte_13 rfl (⟨by rw [jb_fN c_5], by rw [hh, if_neg c_5, if_neg c_5]⟩) (fun z => z)
set_option maxRecDepth 100000 in
set_option maxHeartbeats 4000000 in
theorem m_X5_isFigure {h : jH} {x : Nat} (hx : x ≤ 255) : jM yX5_isFigure cX5_isFigure 1 (some .boolean) 1 none [.int (nI x)] h (jRt (.int (jb (48 ≤ x ∧ x ≤ 57))) h) := by
  refine jM.ofF (by decide +kernel) rfl (Nat.le_of_ble_eq_true rfl) (fun X hX hI => ?_)
  show jV cX5_isFigure RX5 1 X none 0 [some (.int (nI x))] [] h
  refine e_il0 dX5_isFigure_0 ?_
  refine e_bipush (nI 48) dX5_isFigure_1 (by decide) ?_
  refine e_bipush (nI 57) dX5_isFigure_3 (by decide) ?_
  refine e_cn dX5_isFigure_5 wX5_99 (m_X6_isWithinR (by decide) (by decide)) (by decide) rfl rfl (Nat.le_of_ble_eq_true rfl) jBud0 ?_
  rintro _ _ ⟨rfl, rfl⟩
  exact e_zret hX dX5_isFigure_8 jb_nar (jRt_b (iR_nI (by omega))) (fun z => z)
set_option maxRecDepth 100000 in
set_option maxHeartbeats 4000000 in
theorem m_X5_kindOfLetter {h : jH} {x : Nat} (hx : x ≤ 255) : jM yX5_kindOfLetter cX5_kindOfLetter 1 (some .int) 0 none [.int (nI x)] h (jRt (.int (nI (s_kd x))) h) := by
  rcases s_kd_cs (x := x) with ⟨e1, e2⟩ | ⟨e1, e2⟩ | ⟨e1, e2⟩ | ⟨e1, e2⟩ | ⟨e1, e2⟩ | e2
  · rw [e2, e1]
    refine jM.ofF (by decide +kernel) rfl (Nat.le_of_ble_eq_true rfl) (fun X hX hI => ?_)
    show jV cX5_kindOfLetter RX5 0 X none 0 [some (.int (nI 108))] [] h
    refine e_il0 dX5_kindOfLetter_0 ?_
    refine e_look 52 dX5_kindOfLetter_1 (by decide) rfl (by decide) ?_
    refine e_iconst (nI 1) dX5_kindOfLetter_52 (by decide) ?_
    exact e_iret hX dX5_kindOfLetter_53 (⟨rfl, rfl⟩) (fun z => z)
  · rw [e2, e1]
    refine jM.ofF (by decide +kernel) rfl (Nat.le_of_ble_eq_true rfl) (fun X hX hI => ?_)
    show jV cX5_kindOfLetter RX5 0 X none 0 [some (.int (nI 111))] [] h
    refine e_il0 dX5_kindOfLetter_0 ?_
    refine e_look 54 dX5_kindOfLetter_1 (by decide) rfl (by decide) ?_
    refine e_iconst (nI 2) dX5_kindOfLetter_54 (by decide) ?_
    exact e_iret hX dX5_kindOfLetter_55 (⟨rfl, rfl⟩) (fun z => z)
  · rw [e2, e1]
    refine jM.ofF (by decide +kernel) rfl (Nat.le_of_ble_eq_true rfl) (fun X hX hI => ?_)
    show jV cX5_kindOfLetter RX5 0 X none 0 [some (.int (nI 115))] [] h
    refine e_il0 dX5_kindOfLetter_0 ?_
    refine e_look 56 dX5_kindOfLetter_1 (by decide) rfl (by decide) ?_
    refine e_iconst (nI 3) dX5_kindOfLetter_56 (by decide) ?_
    exact e_iret hX dX5_kindOfLetter_57 (⟨rfl, rfl⟩) (fun z => z)
  · rw [e2, e1]
    refine jM.ofF (by decide +kernel) rfl (Nat.le_of_ble_eq_true rfl) (fun X hX hI => ?_)
    show jV cX5_kindOfLetter RX5 0 X none 0 [some (.int (nI 116))] [] h
    refine e_il0 dX5_kindOfLetter_0 ?_
    refine e_look 58 dX5_kindOfLetter_1 (by decide) rfl (by decide) ?_
    refine e_iconst (nI 4) dX5_kindOfLetter_58 (by decide) ?_
    exact e_iret hX dX5_kindOfLetter_59 (⟨rfl, rfl⟩) (fun z => z)
  · rw [e2, e1]
    refine jM.ofF (by decide +kernel) rfl (Nat.le_of_ble_eq_true rfl) (fun X hX hI => ?_)
    show jV cX5_kindOfLetter RX5 0 X none 0 [some (.int (nI 98))] [] h
    refine e_il0 dX5_kindOfLetter_0 ?_
    refine e_look 60 dX5_kindOfLetter_1 (by decide) rfl (by decide) ?_
    refine e_iconst (nI 5) dX5_kindOfLetter_60 (by decide) ?_
    exact e_iret hX dX5_kindOfLetter_61 (⟨rfl, rfl⟩) (fun z => z)
  · rw [e2]
    refine jM.ofF (by decide +kernel) rfl (Nat.le_of_ble_eq_true rfl) (fun X hX hI => ?_)
    show jV cX5_kindOfLetter RX5 0 X none 0 [some (.int (nI x))] [] h
    refine e_il0 dX5_kindOfLetter_0 ?_
    refine e_look 62 dX5_kindOfLetter_1 (by decide) (lk_0 hx e2) (by decide) ?_
    refine e_iconst (nI 0) dX5_kindOfLetter_62 (by decide) ?_
    exact e_iret hX dX5_kindOfLetter_63 (⟨rfl, rfl⟩) (fun z => z)
set_option maxRecDepth 100000 in
set_option maxHeartbeats 4000000 in
theorem lp_X5_tn64 {h : jH} {n a : Nat} {fk : Int32} {B T : Nat → Nat} (ht : cTp h n (nI a) fk) (hB : h[13]? = some (jN 100 B)) (hb : ∀ i, i < n → B i = T i) (hn : n ≤ 100) (hT : ∀ i, i < n → T i ≤ 255) (ha : a ≤ n) {lo hi : Nat} (hlo : lo < 1000) (hhi : hi < 1000) {X : jX} (hX : jRet X (some .int) none (fun v h' => v = some (.int (nI (s_nr n T lo hi a))) ∧ h' = h.set 5 (jO 5 [.ref 6, .ref 13, .int (nI n), .int (nI (if n_ok n T lo hi a then a + n_k n T a else a)), .int (if n_ok n T lo hi a then fk else nI (if n_is n T a then 2 else 1))]))) {j : Nat} (hf : s_fg n T a j) {l5 : Option Value} : jV cX5_takeNumber RX5 2 X none 64 [some (.ref 5), some (.int (nI lo)), some (.int (nI hi)), some (.int (nI (s_nm T a j))), some (.int (nI j)), l5] [] h := by
  have hj := hf.2.1
  refine e_il4 dX5_takeNumber_64 ?_
  refine e_if_eqN 75 dX5_takeNumber_66 (by decide) (by omega) (fun c_66 => ?_) (fun c_66 => ?_)
  · refine e_al0 dX5_takeNumber_75 ?_
    refine e_iconst (nI 1) dX5_takeNumber_76 (by decide) ?_
    refine e_cv dX5_takeNumber_77 vX5_68 (m_X5_refuse ht) (by decide) rfl rfl (Nat.le_of_ble_eq_true rfl) jBud0 rfl ht ?_
    rintro _ h1 ⟨rfl, hh⟩
    refine e_pop dX5_takeNumber_80 rfl ?_
    refine e_iconst (-1) dX5_takeNumber_81 (by decide) ?_
    exact e_iret hX dX5_takeNumber_82 (⟨by rw [s_nr, if_neg (fun z => by have := (s_fg_is hf).mp z.1; omega)]; rfl, by rw [hh, if_neg (fun z => by have := (s_fg_is hf).mp z.1; omega), if_neg (fun z => by have := (s_fg_is hf).mp z.1; omega), if_neg (fun z => by have := (s_fg_is hf).mp z; omega)]⟩) (fun z => z)
  · refine e_il4 dX5_takeNumber_69 ?_
    refine e_iconst (nI 2) dX5_takeNumber_71 (by decide) ?_
    refine e_ic_leN 83 dX5_takeNumber_72 (by decide) (by omega) (by omega) (fun c_72 => ?_) (fun c_72 => ?_)
    · have fi := (s_fg_is hf).mpr ⟨by omega, by omega⟩
      have fv := s_fg_v hf (by omega) (by omega)
      have vl := n_v_le fi
      refine e_il3 dX5_takeNumber_83 ?_
      refine e_il1 dX5_takeNumber_84 ?_
      refine e_il2 dX5_takeNumber_85 ?_
      refine e_cn dX5_takeNumber_86 wX5_99 (m_X6_isWithinR (by omega) (by omega)) (by decide) rfl rfl (Nat.le_of_ble_eq_true rfl) jBud0 ?_
      rintro _ _ ⟨rfl, rfl⟩
      refine e_if_neB 100 dX5_takeNumber_89 (by decide) (fun c_89 => ?_) (fun c_89 => ?_)
      · have fr : lo ≤ n_v n T a ∧ n_v n T a ≤ hi := by rw [← fv.1, iR_nI (by omega)] at c_89; exact c_89
        refine e_al0 dX5_takeNumber_100 ?_
        refine e_dup dX5_takeNumber_101 rfl ?_
        refine e_get dX5_takeNumber_102 fX5_26 ht rfl ?_
        refine e_il4 dX5_takeNumber_105 ?_
        refine e_iaddN dX5_takeNumber_107 ?_
        refine e_put dX5_takeNumber_108 fX5_26 ht (Nat.le_of_ble_eq_true rfl) (fun g => ⟨rfl, rfl⟩) ?_
        refine e_il3 dX5_takeNumber_111 ?_
        exact e_iret hX dX5_takeNumber_112 (⟨by rw [nr_t ⟨fi, fr⟩, fv.1], by rw [if_pos ⟨fi, fr⟩, if_pos ⟨fi, fr⟩, fv.2]; rfl⟩) (fun z => z)
      · refine e_al0 dX5_takeNumber_92 ?_
        refine e_iconst (nI 2) dX5_takeNumber_93 (by decide) ?_
        refine e_cv dX5_takeNumber_94 vX5_68 (m_X5_refuse ht) (by decide) rfl rfl (Nat.le_of_ble_eq_true rfl) jBud0 rfl ht ?_
        rintro _ h1 ⟨rfl, hh⟩
        refine e_pop dX5_takeNumber_97 rfl ?_
        refine e_iconst (-1) dX5_takeNumber_98 (by decide) ?_
        exact e_iret hX dX5_takeNumber_99 (⟨by rw [s_nr, if_neg (fun z => c_89 (by rw [← fv.1, iR_nI (by omega)]; exact z.2))]; rfl, by rw [hh, if_neg (fun z => c_89 (by rw [← fv.1, iR_nI (by omega)]; exact z.2)), if_neg (fun z => c_89 (by rw [← fv.1, iR_nI (by omega)]; exact z.2)), if_pos fi]⟩) (fun z => z)
    · refine e_al0 dX5_takeNumber_75 ?_
      refine e_iconst (nI 1) dX5_takeNumber_76 (by decide) ?_
      refine e_cv dX5_takeNumber_77 vX5_68 (m_X5_refuse ht) (by decide) rfl rfl (Nat.le_of_ble_eq_true rfl) jBud0 rfl ht ?_
      rintro _ h1 ⟨rfl, hh⟩
      refine e_pop dX5_takeNumber_80 rfl ?_
      refine e_iconst (-1) dX5_takeNumber_81 (by decide) ?_
      exact e_iret hX dX5_takeNumber_82 (⟨by rw [s_nr, if_neg (fun z => by have := (s_fg_is hf).mp z.1; omega)]; rfl, by rw [hh, if_neg (fun z => by have := (s_fg_is hf).mp z.1; omega), if_neg (fun z => by have := (s_fg_is hf).mp z.1; omega), if_neg (fun z => by have := (s_fg_is hf).mp z; omega)]⟩) (fun z => z)
set_option maxRecDepth 100000 in
set_option maxHeartbeats 4000000 in
theorem lp_X5_tn11 {h : jH} {n a : Nat} {fk : Int32} {B T : Nat → Nat} (ht : cTp h n (nI a) fk) (hB : h[13]? = some (jN 100 B)) (hb : ∀ i, i < n → B i = T i) (hn : n ≤ 100) (hT : ∀ i, i < n → T i ≤ 255) (ha : a ≤ n) {lo hi : Nat} (hlo : lo < 1000) (hhi : hi < 1000) {X : jX} (hX : jRet X (some .int) none (fun v h' => v = some (.int (nI (s_nr n T lo hi a))) ∧ h' = h.set 5 (jO 5 [.ref 6, .ref 13, .int (nI n), .int (nI (if n_ok n T lo hi a then a + n_k n T a else a)), .int (if n_ok n T lo hi a then fk else nI (if n_is n T a then 2 else 1))]))) : ∀ (m j : Nat), 3 - j < m → j ≤ 3 → (∀ i, i < j → d_is n T (a + i)) → jV cX5_takeNumber RX5 2 X none 11 [some (.ref 5), some (.int (nI lo)), some (.int (nI hi)), some (.int (nI (s_nm T a j))), some (.int (nI j)), some (.int (nI (a + j)))] [] h := by
  intro m
  induction m with
  | zero => intros; omega
  | succ m ih =>
    intro j hm hj hd
    refine e_il5 dX5_takeNumber_11 ?_
    refine e_al0 dX5_takeNumber_13 ?_
    refine e_get dX5_takeNumber_14 fX5_22 ht rfl ?_
    refine e_ic_geN 64 dX5_takeNumber_17 (by decide) (by omega) (by omega) (fun c_17 => ?_) (fun c_17 => ?_)
    · exact lp_X5_tn64 ht hB hb hn hT ha hlo hhi hX ⟨hd, by omega, Or.inr (fun z => by have := z.1; omega)⟩
    · have ti := hT (a + j) (by omega)
      refine e_al0 dX5_takeNumber_20 ?_
      refine e_get dX5_takeNumber_21 fX5_18 ht rfl ?_
      refine e_il5 dX5_takeNumber_24 ?_
      refine e_ialdN dX5_takeNumber_26 hB (by omega) (by decide) ?_
      rw [hb (a + j) (by omega)]
      refine e_cs dX5_takeNumber_27 sX5_96 (m_X5_isFigure (by omega)) (by decide) rfl rfl (Nat.le_of_ble_eq_true rfl) jBud0 ?_
      rintro _ _ ⟨rfl, rfl⟩
      refine e_if_eqB 64 dX5_takeNumber_30 (by decide) (fun c_30 => ?_) (fun c_30 => ?_)
      · exact lp_X5_tn64 ht hB hb hn hT ha hlo hhi hX ⟨hd, by omega, Or.inr (fun z => c_30 z.2)⟩
      · refine e_il4 dX5_takeNumber_33 ?_
        refine e_iconst (nI 2) dX5_takeNumber_35 (by decide) ?_
        refine e_ic_gtN 64 dX5_takeNumber_36 (by decide) (by omega) (by omega) (fun c_36 => ?_) (fun c_36 => ?_)
        · exact lp_X5_tn64 ht hB hb hn hT ha hlo hhi hX ⟨hd, by omega, Or.inl (by omega)⟩
        · refine e_il3 dX5_takeNumber_39 ?_
          refine e_bipush (nI 10) dX5_takeNumber_40 (by decide) ?_
          refine e_imulN dX5_takeNumber_42 ?_
          refine e_al0 dX5_takeNumber_43 ?_
          refine e_get dX5_takeNumber_44 fX5_18 ht rfl ?_
          refine e_il5 dX5_takeNumber_47 ?_
          refine e_ialdN dX5_takeNumber_49 hB (by omega) (by decide) ?_
          rw [hb (a + j) (by omega)]
          refine e_iaddN dX5_takeNumber_50 ?_
          refine e_bipush (nI 48) dX5_takeNumber_51 (by decide) ?_
          refine e_isubN dX5_takeNumber_53 (by omega) ?_
          refine e_is3 dX5_takeNumber_54 rfl ?_
          refine e_inc4N dX5_takeNumber_55 rfl ?_
          refine e_inc5N dX5_takeNumber_58 rfl ?_
          refine e_goto 11 dX5_takeNumber_61 (by decide) ?_
          exact ih (j + 1) (by omega) (by omega) (fun i hi => by
            by_cases e : i = j
            · rw [e]; exact ⟨c_17, c_30⟩
            · exact hd i (by omega))
set_option maxRecDepth 100000 in
set_option maxHeartbeats 4000000 in
theorem m_X5_takeNumber {h : jH} {n a : Nat} {fk : Int32} {B T : Nat → Nat} (ht : cTp h n (nI a) fk) (hB : h[13]? = some (jN 100 B)) (hb : ∀ i, i < n → B i = T i) (hn : n ≤ 100) (hT : ∀ i, i < n → T i ≤ 255) (ha : a ≤ n) {lo hi : Nat} (hlo : lo < 1000) (hhi : hi < 1000) : jM yX5_takeNumber cX5_takeNumber 6 (some .int) 2 none [.ref 5, .int (nI lo), .int (nI hi)] h (fun v h' => v = some (.int (nI (s_nr n T lo hi a))) ∧ h' = h.set 5 (jO 5 [.ref 6, .ref 13, .int (nI n), .int (nI (if n_ok n T lo hi a then a + n_k n T a else a)), .int (if n_ok n T lo hi a then fk else nI (if n_is n T a then 2 else 1))])) := by
  refine jM.ofF (by decide +kernel) rfl (Nat.le_of_ble_eq_true rfl) (fun X hX hI => ?_)
  show jV cX5_takeNumber RX5 2 X none 0 [some (.ref 5), some (.int (nI lo)), some (.int (nI hi)), none, none, none] [] h
  refine e_iconst (nI 0) dX5_takeNumber_0 (by decide) ?_
  refine e_is3 dX5_takeNumber_1 rfl ?_
  refine e_iconst (nI 0) dX5_takeNumber_2 (by decide) ?_
  refine e_is4 dX5_takeNumber_3 rfl ?_
  refine e_al0 dX5_takeNumber_5 ?_
  refine e_get dX5_takeNumber_6 fX5_26 ht rfl ?_
  refine e_is5 dX5_takeNumber_9 rfl ?_
  exact lp_X5_tn11 ht hB hb hn hT ha hlo hhi hX 4 0 (by omega) (by omega) (fun i hi => absurd hi (by omega))
set_option maxRecDepth 100000 in
set_option maxHeartbeats 4000000 in
theorem m_X5_readLaw {h0 h : jH} {n : Nat} {fk : Int32} {B T : Nat → Nat} {d4 d0 d1 d2 d3 : Int32} {f k b p g z : Nat → Nat} (E : jEq h0 h (fun j => 5 ≤ j ∧ j < 13)) (ht : cTp h n (nI 0) fk) (hD : h[6]? = some (jO 3 [.int d4, .int d0, .int d1, .int d2, .int d3, .ref 7, .ref 8, .ref 9, .ref 10, .ref 11, .ref 12])) (hF : h[7]? = some (jN 8 f)) (hK : h[8]? = some (jN 7 k)) (hR : h[9]? = some (jN 7 b)) (hP : h[10]? = some (jN 7 p)) (hG : h[11]? = some (jN 7 g)) (hZ : h[12]? = some (jN 8 z)) (hB : h[13]? = some (jN 100 B)) (hb : ∀ i, i < n → B i = T i) (hn : n ≤ 100) (hT : ∀ i, i < n → T i ≤ 255) : jM yX5_readLaw cX5_readLaw 1 (some .boolean) 3 none [.ref 5] h (fun v h' => v = some (.int (jb ((s_l3 n T).isLeft = true))) ∧ cL h0 h' n fk (s_l3 n T) (fun _ => h'[6]? = some (jO 3 [.int d4, .int (nI (s_l1 n T).1), .int (nI (s_l2 n T).1), .int d2, .int d3, .ref 7, .ref 8, .ref 9, .ref 10, .ref 11, .ref 12]) ∧ h'[7]? = some (jN 8 f) ∧ h'[8]? = some (jN 7 k) ∧ h'[9]? = some (jN 7 b) ∧ h'[10]? = some (jN 7 p) ∧ h'[11]? = some (jN 7 g) ∧ h'[12]? = some (jN 8 z))) := by
  refine jM.ofF (by decide +kernel) rfl (Nat.le_of_ble_eq_true rfl) (fun X hX hI => ?_)
  show jV cX5_readLaw RX5 3 X none 0 [some (.ref 5)] [] h
  refine e_al0 dX5_readLaw_0 ?_
  refine e_bipush (nI 104) dX5_readLaw_1 (by decide) ?_
  refine e_cv dX5_readLaw_3 vX5_51 (m_X5_takeByte ht hB hb hn hT (Nat.zero_le _) (by omega)) (by decide) rfl rfl (Nat.le_of_ble_eq_true rfl) jBud0 rfl ht ?_
  rintro _ h1 ⟨rfl, hh⟩
  replace ht := jhs_at hh ht
  replace hD := jhs hh hD (by omega)
  replace hF := jhs hh hF (by omega)
  replace hK := jhs hh hK (by omega)
  replace hR := jhs hh hR (by omega)
  replace hP := jhs hh hP (by omega)
  replace hG := jhs hh hG (by omega)
  replace hZ := jhs hh hZ (by omega)
  replace hB := jhs hh hB (by omega)
  replace E := jEq.hs hh E ⟨by omega, by omega⟩
  clear hh
  refine e_if_neB 11 dX5_readLaw_6 (by decide) (fun c_6 => ?_) (fun c_6 => ?_)
  · rw [if_pos c_6, if_pos c_6] at ht
    refine e_al0 dX5_readLaw_11 ?_
    refine e_get dX5_readLaw_12 fX5_12 ht rfl ?_
    refine e_al0 dX5_readLaw_15 ?_
    refine e_iconst (nI 0) dX5_readLaw_16 (by decide) ?_
    refine e_bipush (nI 15) dX5_readLaw_17 (by decide) ?_
    refine e_cv dX5_readLaw_19 vX5_55 (m_X5_takeNumber ht hB hb hn hT (by omega) (by omega) (by omega)) (by decide) rfl rfl (Nat.le_of_ble_eq_true rfl) jBud0 rfl ht ?_
    rintro _ h1 ⟨rfl, hh⟩
    replace ht := jhs_at hh ht
    replace hD := jhs hh hD (by omega)
    replace hF := jhs hh hF (by omega)
    replace hK := jhs hh hK (by omega)
    replace hR := jhs hh hR (by omega)
    replace hP := jhs hh hP (by omega)
    replace hG := jhs hh hG (by omega)
    replace hZ := jhs hh hZ (by omega)
    replace hB := jhs hh hB (by omega)
    replace E := jEq.hs hh E ⟨by omega, by omega⟩
    clear hh
    refine e_put dX5_readLaw_22 fX5_59 hD (Nat.le_of_ble_eq_true rfl) (fun g => ⟨rfl, rfl⟩) ?_
    refine e_abs (fun h2 hh => ?_)
    replace ht := jhs hh ht (by omega)
    replace hD := jhs_at hh hD
    replace hF := jhs hh hF (by omega)
    replace hK := jhs hh hK (by omega)
    replace hR := jhs hh hR (by omega)
    replace hP := jhs hh hP (by omega)
    replace hG := jhs hh hG (by omega)
    replace hZ := jhs hh hZ (by omega)
    replace hB := jhs hh hB (by omega)
    replace E := jEq.hs hh E ⟨by omega, by omega⟩
    clear hh
    refine e_al0 dX5_readLaw_25 ?_
    refine e_get dX5_readLaw_26 fX5_12 ht rfl ?_
    refine e_get dX5_readLaw_29 fX5_59 hD rfl ?_
    refine e_iconst (-1) dX5_readLaw_32 (by decide) ?_
    refine e_ic_eq 45 dX5_readLaw_33 (by decide) (fun c_33 => ?_) (fun c_33 => ?_)
    · rw [nr_iff] at c_33
      rw [if_neg c_33, if_neg c_33] at ht
      refine e_iconst (nI 0) dX5_readLaw_45 (by decide) ?_
      exact e_zret hX dX5_readLaw_46 rfl (cL.rr E ⟨_, _, _, _, _, _, _, _, _, _, _, hD, hF, hK, hR, hP, hG, hZ⟩ ht (by rw [s_l3, s_l2, s_l1, s_B_t c_6, s_N_f c_33] <;> rfl)) (fun z => z)
    · rw [nr_iff, Classical.not_not] at c_33
      rw [if_pos c_33, if_pos c_33] at ht
      have le_33 := n_end c_33.1
      refine e_al0 dX5_readLaw_36 ?_
      refine e_bipush (nI 44) dX5_readLaw_37 (by decide) ?_
      refine e_cv dX5_readLaw_39 vX5_51 (m_X5_takeByte ht hB hb hn hT (by omega) (by omega)) (by decide) rfl rfl (Nat.le_of_ble_eq_true rfl) jBud0 rfl ht ?_
      rintro _ h1 ⟨rfl, hh⟩
      replace ht := jhs_at hh ht
      replace hD := jhs hh hD (by omega)
      replace hF := jhs hh hF (by omega)
      replace hK := jhs hh hK (by omega)
      replace hR := jhs hh hR (by omega)
      replace hP := jhs hh hP (by omega)
      replace hG := jhs hh hG (by omega)
      replace hZ := jhs hh hZ (by omega)
      replace hB := jhs hh hB (by omega)
      replace E := jEq.hs hh E ⟨by omega, by omega⟩
      clear hh
      refine e_if_neB 47 dX5_readLaw_42 (by decide) (fun c_42 => ?_) (fun c_42 => ?_)
      · rw [if_pos c_42, if_pos c_42] at ht
        refine e_al0 dX5_readLaw_47 ?_
        refine e_get dX5_readLaw_48 fX5_12 ht rfl ?_
        refine e_al0 dX5_readLaw_51 ?_
        refine e_iconst (nI 1) dX5_readLaw_52 (by decide) ?_
        refine e_bipush (nI 9) dX5_readLaw_53 (by decide) ?_
        refine e_cv dX5_readLaw_55 vX5_55 (m_X5_takeNumber ht hB hb hn hT (by omega) (by omega) (by omega)) (by decide) rfl rfl (Nat.le_of_ble_eq_true rfl) jBud0 rfl ht ?_
        rintro _ h1 ⟨rfl, hh⟩
        replace ht := jhs_at hh ht
        replace hD := jhs hh hD (by omega)
        replace hF := jhs hh hF (by omega)
        replace hK := jhs hh hK (by omega)
        replace hR := jhs hh hR (by omega)
        replace hP := jhs hh hP (by omega)
        replace hG := jhs hh hG (by omega)
        replace hZ := jhs hh hZ (by omega)
        replace hB := jhs hh hB (by omega)
        replace E := jEq.hs hh E ⟨by omega, by omega⟩
        clear hh
        refine e_put dX5_readLaw_58 fX5_62 hD (Nat.le_of_ble_eq_true rfl) (fun g => ⟨rfl, rfl⟩) ?_
        refine e_abs (fun h2 hh => ?_)
        replace ht := jhs hh ht (by omega)
        replace hD := jhs_at hh hD
        replace hF := jhs hh hF (by omega)
        replace hK := jhs hh hK (by omega)
        replace hR := jhs hh hR (by omega)
        replace hP := jhs hh hP (by omega)
        replace hG := jhs hh hG (by omega)
        replace hZ := jhs hh hZ (by omega)
        replace hB := jhs hh hB (by omega)
        replace E := jEq.hs hh E ⟨by omega, by omega⟩
        clear hh
        refine e_al0 dX5_readLaw_61 ?_
        refine e_get dX5_readLaw_62 fX5_12 ht rfl ?_
        refine e_get dX5_readLaw_65 fX5_62 hD rfl ?_
        refine e_iconst (-1) dX5_readLaw_68 (by decide) ?_
        refine e_ic_eq 85 dX5_readLaw_69 (by decide) (fun c_69 => ?_) (fun c_69 => ?_)
        · rw [nr_iff] at c_69
          rw [if_neg c_69, if_neg c_69] at ht
          refine e_iconst (nI 0) dX5_readLaw_85 (by decide) ?_
          exact e_zret hX dX5_readLaw_86 rfl (cL.rr E ⟨_, _, _, _, _, _, _, _, _, _, _, hD, hF, hK, hR, hP, hG, hZ⟩ ht (by rw [s_l3, s_l2, s_l1, s_B_t c_6, s_N_t c_33, s_B_t c_42, s_N_f c_69] <;> rfl)) (fun z => z)
        · rw [nr_iff, Classical.not_not] at c_69
          rw [if_pos c_69, if_pos c_69] at ht
          have le_69 := n_end c_69.1
          refine e_al0 dX5_readLaw_72 ?_
          refine e_bipush (nI 59) dX5_readLaw_73 (by decide) ?_
          refine e_cv dX5_readLaw_75 vX5_51 (m_X5_takeByte ht hB hb hn hT (by omega) (by omega)) (by decide) rfl rfl (Nat.le_of_ble_eq_true rfl) jBud0 rfl ht ?_
          rintro _ h1 ⟨rfl, hh⟩
          replace ht := jhs_at hh ht
          replace hD := jhs hh hD (by omega)
          replace hF := jhs hh hF (by omega)
          replace hK := jhs hh hK (by omega)
          replace hR := jhs hh hR (by omega)
          replace hP := jhs hh hP (by omega)
          replace hG := jhs hh hG (by omega)
          replace hZ := jhs hh hZ (by omega)
          replace hB := jhs hh hB (by omega)
          replace E := jEq.hs hh E ⟨by omega, by omega⟩
          clear hh
          refine e_if_eqB 85 dX5_readLaw_78 (by decide) (fun c_78 => ?_) (fun c_78 => ?_)
          · rw [if_neg c_78, if_neg c_78] at ht
            refine e_iconst (nI 0) dX5_readLaw_85 (by decide) ?_
            exact e_zret hX dX5_readLaw_86 rfl (cL.rr E ⟨_, _, _, _, _, _, _, _, _, _, _, hD, hF, hK, hR, hP, hG, hZ⟩ ht (by rw [s_l3, s_l2, s_l1, s_B_t c_6, s_N_t c_33, s_B_t c_42, s_N_t c_69, s_B_f c_78] <;> rfl)) (fun z => z)
          · rw [if_pos c_78, if_pos c_78] at ht
            refine e_iconst (nI 1) dX5_readLaw_81 (by decide) ?_
            refine e_goto 86 dX5_readLaw_82 (by decide) ?_
            exact e_zret hX dX5_readLaw_86 rfl (by
              refine cL.ll E ⟨_, _, _, _, _, _, _, _, _, _, _, hD, hF, hK, hR, hP, hG, hZ⟩ ht (by rw [s_l3, s_l2, s_l1, s_B_t c_6, s_N_t c_33, s_B_t c_42, s_N_t c_69, s_B_t c_78]) ?_
              rw [show (s_l1 n T).1 = n_v n T (0 + 1) by rw [s_l1, s_B_t c_6, s_N_t c_33], show (s_l2 n T).1 = n_v n T (0 + 1 + n_k n T (0 + 1) + 1) by rw [s_l2, s_l1, s_B_t c_6, s_N_t c_33, s_B_t c_42, s_N_t c_69]]
              rw [nr_t c_33, nr_t c_69] at hD
              exact ⟨hD, hF, hK, hR, hP, hG, hZ⟩) (fun z => z)
      · rw [if_neg c_42, if_neg c_42] at ht
        refine e_iconst (nI 0) dX5_readLaw_45 (by decide) ?_
        exact e_zret hX dX5_readLaw_46 rfl (cL.rr E ⟨_, _, _, _, _, _, _, _, _, _, _, hD, hF, hK, hR, hP, hG, hZ⟩ ht (by rw [s_l3, s_l2, s_l1, s_B_t c_6, s_N_t c_33, s_B_f c_42] <;> rfl)) (fun z => z)
  · rw [if_neg c_6, if_neg c_6] at ht
    refine e_iconst (nI 0) dX5_readLaw_9 (by decide) ?_
    exact e_zret hX dX5_readLaw_10 rfl (cL.rr E ⟨_, _, _, _, _, _, _, _, _, _, _, hD, hF, hK, hR, hP, hG, hZ⟩ ht (by rw [s_l3, s_l2, s_l1, s_B_f c_6] <;> rfl)) (fun z => z)
