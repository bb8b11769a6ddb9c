set_option maxRecDepth 100000 in
set_option maxHeartbeats 4000000 in
theorem lp_X2_weighWaits2 {h0 : jH} {w : hw} (hN0 : HA h0 14 w) (ok : g_ok w) (hd2 : w 4 < 2 ^ 28) {a b n : Nat} (ha : a < w 3) (hb : b < w 3) (hab : a ≠ b) (hn : n < 1000) {X : jX} {i : Nat} (hi : i < 5) (K : ∀ (h : jH) (f1 f2 : Nat → Nat), cW h0 h f1 f2 → (∀ c, c < 5 * i + 5 → f1 c = s_g1 w a b n c) → (∀ c, c < 5 * i + 5 → f2 c = s_g2 w a b n c) → jV cX2_weighWaits RX2 5 X none 102 [some (.ref 206), some (.ref 14), some (.int (nI a)), some (.int (nI b)), some (.int (nI n)), some (.int (nI i)), some (.int (nI 5))] [] h) : ∀ (m j : Nat) (h : jH) (f1 f2 : Nat → Nat), 5 - j < m → j ≤ 5 → cW h0 h f1 f2 → (∀ c, c < 5 * i + j → f1 c = s_g1 w a b n c) → (∀ c, c < 5 * i + j → f2 c = s_g2 w a b n c) → jV cX2_weighWaits RX2 5 X none 12 [some (.ref 206), some (.ref 14), some (.int (nI a)), some (.int (nI b)), some (.int (nI n)), some (.int (nI i)), some (.int (nI j))] [] h := by
  have h8 := ok.2.2.1
  have h7 := ok.2.2.2.1
  intro m
  induction m with
  | zero => intros; omega
  | succ m ih =>
    intro j h f1 f2 hm hj5 T hf1 hf2
    obtain ⟨tt1, t2_, hA1, hA2, E⟩ := T
    have hf2s := t2_.sh
    have t0 : cT0 h h := ⟨tt1, t2_, jEq.rf⟩
    have hN : HA h 14 w := hN0.eq E (fun j a b => by unfold jIn at a b; omega)
    refine e_il6 dX2_weighWaits_12 ?_
    refine e_iconst (nI 5) dX2_weighWaits_14 (by decide) ?_
    refine e_ic_geN 102 dX2_weighWaits_15 (by decide) (by omega) (by omega) (fun c_15 => ?_) (fun c_15 => ?_)
    · rw [show j = 5 by omega] at hf1 hf2 ⊢
      exact K _ _ _ ⟨tt1, t2_, hA1, hA2, E⟩ hf1 hf2
    · have hj : j < 5 := by omega
      refine e_al0 dX2_weighWaits_18 ?_
      refine e_get dX2_weighWaits_19 fX2_12 tt1 rfl ?_
      refine e_al1 dX2_weighWaits_22 ?_
      refine e_cv dX2_weighWaits_23 vX2_25 (m_becomeT0 t0 hN h8 h7) (by decide) rfl rfl (Nat.le_of_ble_eq_true rfl) jBud0 rfl hf2s.choose_spec ?_
      rintro _ h1 ⟨rfl, t⟩
      obtain ⟨f, k_, b_, p_, g_, z_, hC, hV⟩ := id t.2.1
      replace tt1 := t.1
      refine e_al0 dX2_weighWaits_26 ?_
      refine e_il2 dX2_weighWaits_27 ?_
      refine e_il5 dX2_weighWaits_28 ?_
      refine e_il3 dX2_weighWaits_30 ?_
      refine e_il6 dX2_weighWaits_31 ?_
      refine e_il4 dX2_weighWaits_33 ?_
      refine e_cv dX2_weighWaits_35 vX2_45 (m_X2_passWaiting (a := a) (i := i) (b := b) (j := j) (n := n) (by omega) (by omega) (by omega) (by omega) (by omega) (fun q => absurd q hab) t ok (by omega)) (by decide) rfl rfl (Nat.le_of_ble_eq_true rfl) jBud0 rfl tt1 ?_
      rintro _ h2 ⟨rfl, t⟩
      clear hC hV
      obtain ⟨f, k_, b_, p_, g_, z_, hC, hV⟩ := id t.2.1
      replace tt1 := t.1
      replace hA1 := t.2.2.at (by unfold jIn; omega) hA1
      replace hA2 := t.2.2.at (by unfold jIn; omega) hA2
      have EE := E.tr (t.2.2.mono (Q := jIn 207 9) (fun j q => by unfold jIn at q ⊢; omega)) (R := jIn 207 9) (fun j q => q) (fun j q => q)
      have sm := s_wt_sm (a := a) (i := i) (b := b) (j := j) (n := n) ok
      have e3 := sm.1 3 (by omega)
      have e2 := sm.1 2 (by omega)
      have epa := (hV.2 a (by omega)).2.2.1
      have epb := (hV.2 b (by omega)).2.2.1
      rw [sm.2 a] at epa
      rw [sm.2 b] at epb
      have la := (ok.2.2.2.2.2 a ha).2.2.2.1
      have lb := (ok.2.2.2.2.2 b hb).2.2.2.1
      have efa : f (p_ a) = s_g1 w a b n (5 * i + j) := by rw [hV.1 (p_ a) (by omega), epa, s_g1_at hj]
      have efb : f (p_ b) = s_g2 w a b n (5 * i + j) := by rw [hV.1 (p_ b) (by omega), epb, s_g2_at hj]
      refine e_al0 dX2_weighWaits_38 ?_
      refine e_get dX2_weighWaits_39 fX2_18 tt1 rfl ?_
      refine e_il5 dX2_weighWaits_42 ?_
      refine e_iconst (nI 5) dX2_weighWaits_44 (by decide) ?_
      refine e_imulN dX2_weighWaits_45 ?_
      refine e_il6 dX2_weighWaits_46 ?_
      refine e_iaddN dX2_weighWaits_48 ?_
      rw [show i * 5 + j = 5 * i + j by omega]
      refine e_al0 dX2_weighWaits_49 ?_
      refine e_get dX2_weighWaits_50 fX2_12 tt1 rfl ?_
      refine e_get dX2_weighWaits_53 fX2_49 hC.1 rfl ?_
      refine e_al0 dX2_weighWaits_56 ?_
      refine e_get dX2_weighWaits_57 fX2_12 tt1 rfl ?_
      refine e_get dX2_weighWaits_60 fX2_52 hC.1 rfl ?_
      refine e_il2 dX2_weighWaits_63 ?_
      refine e_ialdN dX2_weighWaits_64 hC.2.2.2.2.1 (by omega) (by decide) ?_
      refine e_ialdN dX2_weighWaits_65 hC.2.1 (by rw [epa]; omega) (by decide) ?_
      refine e_iastN dX2_weighWaits_66 hA1 (by omega) (by decide) ?_
      refine e_abs (fun h3 hh => ?_)
      replace tt1 := jhs hh tt1 (by omega)
      replace hC := HC.hs hh hC (by omega)
      replace hA1 := jhs_at hh hA1
      replace hA2 := jhs hh hA2 (by omega)
      replace EE := jEq.hs hh EE (by unfold jIn; omega)
      clear hh
      refine e_al0 dX2_weighWaits_67 ?_
      refine e_get dX2_weighWaits_68 fX2_22 tt1 rfl ?_
      refine e_il5 dX2_weighWaits_71 ?_
      refine e_iconst (nI 5) dX2_weighWaits_73 (by decide) ?_
      refine e_imulN dX2_weighWaits_74 ?_
      refine e_il6 dX2_weighWaits_75 ?_
      refine e_iaddN dX2_weighWaits_77 ?_
      rw [show i * 5 + j = 5 * i + j by omega]
      refine e_al0 dX2_weighWaits_78 ?_
      refine e_get dX2_weighWaits_79 fX2_12 tt1 rfl ?_
      refine e_get dX2_weighWaits_82 fX2_49 hC.1 rfl ?_
      refine e_al0 dX2_weighWaits_85 ?_
      refine e_get dX2_weighWaits_86 fX2_12 tt1 rfl ?_
      refine e_get dX2_weighWaits_89 fX2_52 hC.1 rfl ?_
      refine e_il3 dX2_weighWaits_92 ?_
      refine e_ialdN dX2_weighWaits_93 hC.2.2.2.2.1 (by omega) (by decide) ?_
      refine e_ialdN dX2_weighWaits_94 hC.2.1 (by rw [epb]; omega) (by decide) ?_
      refine e_iastN dX2_weighWaits_95 hA2 (by omega) (by decide) ?_
      refine e_abs (fun h3 hh => ?_)
      replace tt1 := jhs hh tt1 (by omega)
      replace hC := HC.hs hh hC (by omega)
      replace hA1 := jhs hh hA1 (by omega)
      replace hA2 := jhs_at hh hA2
      replace EE := jEq.hs hh EE (by unfold jIn; omega)
      clear hh
      refine e_inc6N dX2_weighWaits_96 rfl ?_
      refine e_goto 12 dX2_weighWaits_99 (by decide) ?_
      exact ih (j + 1) _ _ _ (by omega) (by omega) ⟨tt1, ⟨_, _, _, _, _, _, _, _, _, _, _, hC⟩, hA1, hA2, EE⟩ (s_fill hf1 efa rfl) (s_fill hf2 efb rfl)
set_option maxRecDepth 100000 in
set_option maxHeartbeats 4000000 in
theorem lp_X2_weighWaits1 {h0 : jH} {w : hw} (hN0 : HA h0 14 w) (ok : g_ok w) (hd2 : w 4 < 2 ^ 28) {a b n : Nat} (ha : a < w 3) (hb : b < w 3) (hab : a ≠ b) (hn : n < 1000) {X : jX} (hX : jRet X (none) none (fun v h' => v = none ∧ cW h0 h' (s_g1 w a b n) (s_g2 w a b n))) : ∀ (m i : Nat) (h : jH) (f1 f2 : Nat → Nat) (l6 : Option Value), 5 - i < m → i ≤ 5 → cW h0 h f1 f2 → (∀ c, c < 5 * i → f1 c = s_g1 w a b n c) → (∀ c, c < 5 * i → f2 c = s_g2 w a b n c) → jV cX2_weighWaits RX2 5 X none 3 [some (.ref 206), some (.ref 14), some (.int (nI a)), some (.int (nI b)), some (.int (nI n)), some (.int (nI i)), l6] [] h := by
  intro m
  induction m with
  | zero => intros; omega
  | succ m ih =>
    intro i h f1 f2 l6 hm hi5 T hf1 hf2
    refine e_il5 dX2_weighWaits_3 ?_
    refine e_iconst (nI 5) dX2_weighWaits_5 (by decide) ?_
    refine e_ic_geN 108 dX2_weighWaits_6 (by decide) (by omega) (by omega) (fun c_6 => ?_) (fun c_6 => ?_)
    · refine e_norm (s_g1 w a b n) T.2.2.1 (fun c hc => hf1 c (by omega)) ?_
      refine e_abs (fun h1 hh => ?_)
      replace T : cW h0 h1 (s_g1 w a b n) f2 := ⟨jhs hh T.1 (by omega), HX.eq T.2.1 (jEq.hs hh (jEq.rf (P := fun j => j = 214)) rfl) (fun j a b => by unfold jIn at b; omega), jhs_at hh T.2.2.1, jhs hh T.2.2.2.1 (by omega), jEq.hs hh T.2.2.2.2 (by unfold jIn; omega)⟩
      clear hh
      refine e_norm (s_g2 w a b n) T.2.2.2.1 (fun c hc => hf2 c (by omega)) ?_
      refine e_abs (fun h2 hh => ?_)
      replace T : cW h0 h2 (s_g1 w a b n) (s_g2 w a b n) := ⟨jhs hh T.1 (by omega), HX.eq T.2.1 (jEq.hs hh (jEq.rf (P := fun j => j = 215)) rfl) (fun j a b => by unfold jIn at b; omega), jhs hh T.2.2.1 (by omega), jhs_at hh T.2.2.2.1, jEq.hs hh T.2.2.2.2 (by unfold jIn; omega)⟩
      clear hh
      exact e_ret hX dX2_weighWaits_108 (⟨rfl, T⟩) (fun z => z)
    · refine e_iconst (nI 0) dX2_weighWaits_9 (by decide) ?_
      refine e_is6 dX2_weighWaits_10 rfl ?_
      refine lp_X2_weighWaits2 hN0 ok hd2 ha hb hab hn (i := i) (by omega) (fun h f1 f2 T hf1 hf2 => ?_) 6 0 h f1 f2 (by omega) (by omega) T (fun c hc => hf1 c (by omega)) (fun c hc => hf2 c (by omega))
      refine e_inc5N dX2_weighWaits_102 rfl ?_
      refine e_goto 3 dX2_weighWaits_105 (by decide) ?_
      exact ih (i + 1) _ _ _ _ (by omega) (by omega) T hf1 hf2
set_option maxRecDepth 100000 in
set_option maxHeartbeats 4000000 in
theorem m_X2_weighWaits {h0 : jH} {w : hw} (hN0 : HA h0 14 w) (ok : g_ok w) (hd2 : w 4 < 2 ^ 28) {a b n : Nat} (ha : a < w 3) (hb : b < w 3) (hab : a ≠ b) (hn : n < 1000) {h : jH} {f1 f2 : Nat → Nat} (T : cW h0 h f1 f2) : jM yX2_weighWaits cX2_weighWaits 7 (none : Option Jvm.ClassFile.FieldType) 5 none [.ref 206, .ref 14, .int (nI a), .int (nI b), .int (nI n)] h (fun v h' => v = none ∧ cW h0 h' (s_g1 w a b n) (s_g2 w a b n)) := by
  refine jM.ofF (by decide +kernel) rfl (Nat.le_of_ble_eq_true rfl) (fun X hX hI => ?_)
  show jV cX2_weighWaits RX2 5 X none 0 [some (.ref 206), some (.ref 14), some (.int (nI a)), some (.int (nI b)), some (.int (nI n)), none, none] [] h
  refine e_iconst (nI 0) dX2_weighWaits_0 (by decide) ?_
  refine e_is5 dX2_weighWaits_1 rfl ?_
  exact lp_X2_weighWaits1 hN0 ok hd2 ha hb hab hn hX 6 0 h _ _ none (by omega) (by omega) T (fun c hc => absurd hc (by omega)) (fun c hc => absurd hc (by omega))
set_option maxRecDepth 100000 in
set_option maxHeartbeats 4000000 in
theorem lp_X2_isRest {G1 G2 : Nat → Nat} (hb1 : ∀ c, G1 c ≤ 99) (hb2 : ∀ c, G2 c ≤ 99) {h : jH} (t1 : h[206]? = some (jO 2 [.ref 207, .ref 214, .ref 215])) (t3 : h[214]? = some (jN 25 G1)) (t4 : h[215]? = some (jN 25 G2)) {i j : Nat} (hi : i < 5) (hj : j < 5) {X : jX} (hX : jRet X (some .boolean) none (jRt (.int (jb (s_isr G1 G2 (5 * i + j)))) h)) : ∀ (m k : Nat), 5 - k < m → k ≤ 5 → (∀ q, q < k → G1 (5 * q + j) ≤ G1 (5 * i + j) ∧ G2 (5 * i + q) ≤ G2 (5 * i + j)) → jV cX2_isRest RX2 0 X none 9 [some (.ref 206), some (.int (nI i)), some (.int (nI j)), some (.int (nI (5 * i + j))), some (.int (nI k))] [] h := by
  intro m
  induction m with
  | zero => intros; omega
  | succ m ih =>
    intro k hm hk hq0
    refine e_il4 dX2_isRest_9 ?_
    refine e_iconst (nI 5) dX2_isRest_11 (by decide) ?_
    refine e_ic_geN 63 dX2_isRest_12 (by decide) (by omega) (by omega) (fun c_12 => ?_) (fun c_12 => ?_)
    · refine e_iconst (nI 1) dX2_isRest_63 (by decide) ?_
      exact e_zret hX dX2_isRest_64 rfl (jRt_t ((s_isr_iff hj).mpr (fun q hq => hq0 q (by omega)))) (fun z => z)
    · refine e_al0 dX2_isRest_15 ?_
      refine e_get dX2_isRest_16 fX2_18 t1 rfl ?_
      refine e_il4 dX2_isRest_19 ?_
      refine e_iconst (nI 5) dX2_isRest_21 (by decide) ?_
      refine e_imulN dX2_isRest_22 ?_
      refine e_il2 dX2_isRest_23 ?_
      refine e_iaddN dX2_isRest_24 ?_
      rw [show k * 5 + j = 5 * k + j by omega]
      refine e_ialdN dX2_isRest_25 t3 (by omega) (by decide) ?_
      have b1 := hb1 (5 * k + j)
      have b2 := hb1 (5 * i + j)
      have b3 := hb2 (5 * i + k)
      have b4 := hb2 (5 * i + j)
      refine e_al0 dX2_isRest_26 ?_
      refine e_get dX2_isRest_27 fX2_18 t1 rfl ?_
      refine e_il3 dX2_isRest_30 ?_
      refine e_ialdN dX2_isRest_31 t3 (by omega) (by decide) ?_
      refine e_ic_gtN 55 dX2_isRest_32 (by decide) (by omega) (by omega) (fun c_32 => ?_) (fun c_32 => ?_)
      · refine e_iconst (nI 0) dX2_isRest_55 (by decide) ?_
        exact e_zret hX dX2_isRest_56 rfl (jRt_f (fun q => absurd ((s_isr_iff hj).mp q k (by omega)) (by omega))) (fun z => z)
      · refine e_al0 dX2_isRest_35 ?_
        refine e_get dX2_isRest_36 fX2_22 t1 rfl ?_
        refine e_il1 dX2_isRest_39 ?_
        refine e_iconst (nI 5) dX2_isRest_40 (by decide) ?_
        refine e_imulN dX2_isRest_41 ?_
        refine e_il4 dX2_isRest_42 ?_
        refine e_iaddN dX2_isRest_44 ?_
        rw [show i * 5 + k = 5 * i + k by omega]
        refine e_ialdN dX2_isRest_45 t4 (by omega) (by decide) ?_
        refine e_al0 dX2_isRest_46 ?_
        refine e_get dX2_isRest_47 fX2_22 t1 rfl ?_
        refine e_il3 dX2_isRest_50 ?_
        refine e_ialdN dX2_isRest_51 t4 (by omega) (by decide) ?_
        refine e_ic_leN 57 dX2_isRest_52 (by decide) (by omega) (by omega) (fun c_52 => ?_) (fun c_52 => ?_)
        · refine e_inc4N dX2_isRest_57 rfl ?_
          refine e_goto 9 dX2_isRest_60 (by decide) ?_
          exact ih (k + 1) (by omega) (by omega) (fun q hq => by
            by_cases e : q = k
            · rw [e]; exact ⟨by omega, by omega⟩
            · exact hq0 q (by omega))
        · refine e_iconst (nI 0) dX2_isRest_55 (by decide) ?_
          exact e_zret hX dX2_isRest_56 rfl (jRt_f (fun q => absurd ((s_isr_iff hj).mp q k (by omega)) (by omega))) (fun z => z)
set_option maxRecDepth 100000 in
set_option maxHeartbeats 4000000 in
theorem m_X2_isRest {G1 G2 : Nat → Nat} (hb1 : ∀ c, G1 c ≤ 99) (hb2 : ∀ c, G2 c ≤ 99) {h : jH} (t1 : h[206]? = some (jO 2 [.ref 207, .ref 214, .ref 215])) (t3 : h[214]? = some (jN 25 G1)) (t4 : h[215]? = some (jN 25 G2)) {i j : Nat} (hi : i < 5) (hj : j < 5) : jM yX2_isRest cX2_isRest 5 (some .boolean) 0 none [.ref 206, .int (nI i), .int (nI j)] h (jRt (.int (jb (s_isr G1 G2 (5 * i + j)))) h) := by
  refine jM.ofF (by decide +kernel) rfl (Nat.le_of_ble_eq_true rfl) (fun X hX hI => ?_)
  show jV cX2_isRest RX2 0 X none 0 [some (.ref 206), some (.int (nI i)), some (.int (nI j)), none, none] [] h
  refine e_il1 dX2_isRest_0 ?_
  refine e_iconst (nI 5) dX2_isRest_1 (by decide) ?_
  refine e_imulN dX2_isRest_2 ?_
  refine e_il2 dX2_isRest_3 ?_
  refine e_iaddN dX2_isRest_4 ?_
  rw [show i * 5 + j = 5 * i + j by omega]
  refine e_is3 dX2_isRest_5 rfl ?_
  refine e_iconst (nI 0) dX2_isRest_6 (by decide) ?_
  refine e_is4 dX2_isRest_7 rfl ?_
  exact lp_X2_isRest hb1 hb2 t1 t3 t4 hi hj hX 6 0 (by omega) (by omega) (fun q hq => absurd hq (by omega))
set_option maxRecDepth 100000 in
set_option maxHeartbeats 4000000 in
theorem lp_X2_restingWaits2 {G1 G2 : Nat → Nat} (hb1 : ∀ c, G1 c ≤ 99) (hb2 : ∀ c, G2 c ≤ 99) {h : jH} (t1 : h[206]? = some (jO 2 [.ref 207, .ref 214, .ref 215])) (t3 : h[214]? = some (jN 25 G1)) (t4 : h[215]? = some (jN 25 G2)) {K r : Int32} {X : jX} (hX : jRet X (some .int) none (jRt (.int r) h)) {i : Nat} (hi : i < 5) (Ko : ∀ s : Nat, s_rs G1 G2 K (25 - (5 * i + 5)) (5 * i + 5) s = r → jV cX2_restingWaits RX2 1 X none 53 [some (.ref 206), some (.int K), some (.int (nI s)), some (.int (nI i)), some (.int (nI 5))] [] h) : ∀ (m j s : Nat), 5 - j < m → j ≤ 5 → s_rs G1 G2 K (25 - (5 * i + j)) (5 * i + j) s = r → jV cX2_restingWaits RX2 1 X none 12 [some (.ref 206), some (.int K), some (.int (nI s)), some (.int (nI i)), some (.int (nI j))] [] h := by
  intro m
  induction m with
  | zero => intros; omega
  | succ m ih =>
    intro j s hm hj hr
    refine e_il4 dX2_restingWaits_12 ?_
    refine e_iconst (nI 5) dX2_restingWaits_14 (by decide) ?_
    refine e_ic_geN 53 dX2_restingWaits_15 (by decide) (by omega) (by omega) (fun c_15 => ?_) (fun c_15 => ?_)
    · rw [show j = 5 by omega] at hr ⊢
      exact Ko s (by rw [← hr])
    · refine e_al0 dX2_restingWaits_18 ?_
      refine e_il3 dX2_restingWaits_19 ?_
      refine e_il4 dX2_restingWaits_20 ?_
      refine e_cv dX2_restingWaits_22 vX2_69 (m_X2_isRest hb1 hb2 t1 t3 t4 (i := i) (j := j) (by omega) (by omega)) (by decide) rfl rfl (Nat.le_of_ble_eq_true rfl) jBud0 rfl t1 ?_
      rintro _ _ ⟨rfl, rfl⟩
      refine e_if_neB 31 dX2_restingWaits_25 (by decide) (fun c_25 => ?_) (fun c_25 => ?_)
      · refine e_il2 dX2_restingWaits_31 ?_
        refine e_il1 dX2_restingWaits_32 ?_
        refine e_ic_ne 44 dX2_restingWaits_33 (by decide) (fun c_33 => ?_) (fun c_33 => ?_)
        · refine e_inc2N dX2_restingWaits_44 rfl ?_
          refine e_inc4N dX2_restingWaits_47 rfl ?_
          refine e_goto 12 dX2_restingWaits_50 (by decide) ?_
          exact ih (j + 1) (s + 1) (by omega) (by omega) (by rw [← hr, show 25 - (5 * i + j) = (25 - (5 * i + (j + 1))) + 1 by omega, s_rs, if_pos c_25, if_neg c_33]; rfl)
        · refine e_bipush (nI 10) dX2_restingWaits_36 (by decide) ?_
          refine e_il3 dX2_restingWaits_38 ?_
          refine e_imulN dX2_restingWaits_39 ?_
          refine e_il4 dX2_restingWaits_40 ?_
          refine e_iaddN dX2_restingWaits_42 ?_
          exact e_iret hX dX2_restingWaits_43 (⟨by rw [← hr, show 25 - (5 * i + j) = (25 - (5 * i + (j + 1))) + 1 by omega, s_rs, if_pos c_25, if_pos c_33, show (5 * i + j) / 5 = i by omega, show (5 * i + j) % 5 = j by omega], rfl⟩) (fun z => z)
      · refine e_goto 47 dX2_restingWaits_28 (by decide) ?_
        refine e_inc4N dX2_restingWaits_47 rfl ?_
        refine e_goto 12 dX2_restingWaits_50 (by decide) ?_
        exact ih (j + 1) s (by omega) (by omega) (by rw [← hr, show 25 - (5 * i + j) = (25 - (5 * i + (j + 1))) + 1 by omega, s_rs, if_neg c_25]; rfl)
set_option maxRecDepth 100000 in
set_option maxHeartbeats 4000000 in
theorem lp_X2_restingWaits1 {G1 G2 : Nat → Nat} (hb1 : ∀ c, G1 c ≤ 99) (hb2 : ∀ c, G2 c ≤ 99) {h : jH} (t1 : h[206]? = some (jO 2 [.ref 207, .ref 214, .ref 215])) (t3 : h[214]? = some (jN 25 G1)) (t4 : h[215]? = some (jN 25 G2)) {K r : Int32} {X : jX} (hX : jRet X (some .int) none (jRt (.int r) h)) : ∀ (m i s : Nat) (l4 : Option Value), 5 - i < m → i ≤ 5 → s_rs G1 G2 K (25 - 5 * i) (5 * i) s = r → jV cX2_restingWaits RX2 1 X none 4 [some (.ref 206), some (.int K), some (.int (nI s)), some (.int (nI i)), l4] [] h := by
  intro m
  induction m with
  | zero => intros; omega
  | succ m ih =>
    intro i s l4 hm hi hr
    refine e_il3 dX2_restingWaits_4 ?_
    refine e_iconst (nI 5) dX2_restingWaits_5 (by decide) ?_
    refine e_ic_geN 59 dX2_restingWaits_6 (by decide) (by omega) (by omega) (fun c_6 => ?_) (fun c_6 => ?_)
    · refine e_il1 dX2_restingWaits_59 ?_
      refine e_iconst (-1) dX2_restingWaits_60 (by decide) ?_
      refine e_ic_ne 68 dX2_restingWaits_61 (by decide) (fun c_61 => ?_) (fun c_61 => ?_)
      · refine e_ldc dX2_restingWaits_68 kX2_37 ?_
        exact e_iret hX dX2_restingWaits_70 (⟨by rw [← hr, show 25 - 5 * i = 0 by omega, s_rs, if_neg c_61], rfl⟩) (fun z => z)
      · refine e_il2 dX2_restingWaits_64 ?_
        refine e_goto 70 dX2_restingWaits_65 (by decide) ?_
        exact e_iret hX dX2_restingWaits_70 (⟨by rw [← hr, show 25 - 5 * i = 0 by omega, s_rs, if_pos c_61], rfl⟩) (fun z => z)
    · refine e_iconst (nI 0) dX2_restingWaits_9 (by decide) ?_
      refine e_is4 dX2_restingWaits_10 rfl ?_
      refine lp_X2_restingWaits2 hb1 hb2 t1 t3 t4 hX (i := i) (by omega) (fun s hr => ?_) 6 0 s (by omega) (by omega) hr
      refine e_inc3N dX2_restingWaits_53 rfl ?_
      refine e_goto 4 dX2_restingWaits_56 (by decide) ?_
      exact ih (i + 1) s _ (by omega) (by omega) hr
set_option maxRecDepth 100000 in
set_option maxHeartbeats 4000000 in
theorem m_X2_restingWaits {G1 G2 : Nat → Nat} (hb1 : ∀ c, G1 c ≤ 99) (hb2 : ∀ c, G2 c ≤ 99) {h : jH} (t1 : h[206]? = some (jO 2 [.ref 207, .ref 214, .ref 215])) (t3 : h[214]? = some (jN 25 G1)) (t4 : h[215]? = some (jN 25 G2)) {K : Int32} : jM yX2_restingWaits cX2_restingWaits 5 (some .int) 1 none [.ref 206, .int K] h (jRt (.int (s_rs G1 G2 K 25 0 0)) h) := by
  refine jM.ofF (by decide +kernel) rfl (Nat.le_of_ble_eq_true rfl) (fun X hX hI => ?_)
  show jV cX2_restingWaits RX2 1 X none 0 [some (.ref 206), some (.int K), none, none, none] [] h
  refine e_iconst (nI 0) dX2_restingWaits_0 (by decide) ?_
  refine e_is2 dX2_restingWaits_1 rfl ?_
  refine e_iconst (nI 0) dX2_restingWaits_2 (by decide) ?_
  refine e_is3 dX2_restingWaits_3 rfl ?_
  exact lp_X2_restingWaits1 hb1 hb2 t1 t3 t4 hX 6 0 0 none (by omega) (by omega) rfl
set_option maxRecDepth 100000 in
set_option maxHeartbeats 4000000 in
theorem c_rests {h : jH} {S : jS} (c : CI h S) (g : SG S) {x y n kk : Int32} : jM yX6_rests cX6_rests 5 (some .int) 6 none [.ref 0, .int x, .int y, .int n, .int kk] h (cAns h (sp_rests x y n kk S, S)) := by
  obtain ⟨c1, c2, c3, c4, c5, c6, c7, c8⟩ := id c
  obtain ⟨g0, g1, g2, ⟨ok, gd, gh⟩, ⟨ga, gp⟩, gi, gt⟩ := id g
  obtain ⟨k0, k1, k2, k3, k4, k5⟩ := id ok
  obtain ⟨f, k, b, p, gg, z, hC, hV⟩ := id c4
  obtain ⟨nx, rf, hnx, hac, -⟩ := id c5
  obtain ⟨⟨at_, ht⟩, hx6, B, hB, hb⟩ := id c3
  obtain ⟨⟨rfi, hi1, hi2⟩, hi3⟩ := id c6
  obtain ⟨hk1, fk_, hk2, hk3⟩ := id c8
  obtain ⟨hf1, hf2, hf3, hf4⟩ := id c7
  refine jM.ofF (by decide +kernel) rfl (Nat.le_of_ble_eq_true rfl) (fun X hX hI => ?_)
  show jV cX6_rests RX6 6 X none 0 [some (.ref 0), some (.int x), some (.int y), some (.int n), some (.int kk)] [] h
  refine e_al0 dX6_rests_0 ?_
  refine e_il1 dX6_rests_1 ?_
  refine e_cv dX6_rests_2 vX6_158 (m_X6_isPair c1 c4 (by omega)) (by decide) rfl rfl (Nat.le_of_ble_eq_true rfl) jBud0 rfl c1 ?_
  rintro _ _ ⟨rfl, rfl⟩
  refine e_if_eqB 21 dX6_rests_5 (by decide) (fun c_5 => ?_) (fun c_5 => ?_)
  · refine e_ldc dX6_rests_21 kX6_67 ?_
    exact e_iret hX dX6_rests_23 (by rw [sp_rests, if_neg c_5]; exact cAns.same c rfl) (fun z => z)
  · refine e_al0 dX6_rests_8 ?_
    refine e_il2 dX6_rests_9 ?_
    refine e_cv dX6_rests_10 vX6_158 (m_X6_isPair c1 c4 (by omega)) (by decide) rfl rfl (Nat.le_of_ble_eq_true rfl) jBud0 rfl c1 ?_
    rintro _ _ ⟨rfl, rfl⟩
    refine e_if_eqB 21 dX6_rests_13 (by decide) (fun c_13 => ?_) (fun c_13 => ?_)
    · refine e_ldc dX6_rests_21 kX6_67 ?_
      exact e_iret hX dX6_rests_23 (by rw [sp_rests, if_pos c_5, if_neg c_13]; exact cAns.same c rfl) (fun z => z)
    · refine e_il1 dX6_rests_16 ?_
      refine e_il2 dX6_rests_17 ?_
      refine e_ic_ne 24 dX6_rests_18 (by decide) (fun c_18 => ?_) (fun c_18 => ?_)
      · refine e_il3 dX6_rests_24 ?_
        refine e_iconst (nI 5) dX6_rests_25 (by decide) ?_
        refine e_bipush (nI 20) dX6_rests_26 (by decide) ?_
        refine e_cs dX6_rests_28 sX6_63 (m_X6_isWithinR (by decide) (by decide)) (by decide) rfl rfl (Nat.le_of_ble_eq_true rfl) jBud0 ?_
        rintro _ _ ⟨rfl, rfl⟩
        refine e_if_eqB 40 dX6_rests_31 (by decide) (fun c_31 => ?_) (fun c_31 => ?_)
        · refine e_ldc dX6_rests_40 kX6_67 ?_
          exact e_iret hX dX6_rests_42 (by rw [sp_rests, if_pos c_5, if_pos c_13, if_neg c_18, if_neg c_31]; exact cAns.same c rfl) (fun z => z)
        · refine e_il4 dX6_rests_34 ?_
          refine e_iconst (-1) dX6_rests_36 (by decide) ?_
          refine e_ic_ge 43 dX6_rests_37 (by decide) (fun c_37 => ?_) (fun c_37 => ?_)
          · obtain ⟨a, ha, rfl⟩ := iN_of c_5 (by omega)
            have ea : (nI a).toNatClampNeg = a := nI_clamp (by omega)
            obtain ⟨b, hb_, rfl⟩ := iN_of c_13 (by omega)
            have eb : (nI b).toNatClampNeg = b := nI_clamp (by omega)
            obtain ⟨n, ln, hn, rfl⟩ := iR_of c_31 (by decide)
            have en : (nI n).toNatClampNeg = n := nI_clamp (by omega)
            have hab : a ≠ b := fun q => c_18 (by rw [q])
            have hb1 : ∀ c, s_g1 S.2.2.1 a b n c ≤ 99 := fun c => s_wt_f ok (k5 a ha).2.2.2.1
            have hb2 : ∀ c, s_g2 S.2.2.1 a b n c ≤ 99 := fun c => s_wt_f ok (k5 b hb_).2.2.2.1
            refine e_al0 dX6_rests_43 ?_
            refine e_get dX6_rests_44 fX6_44 c1 rfl ?_
            refine e_al0 dX6_rests_47 ?_
            refine e_get dX6_rests_48 fX6_26 c1 rfl ?_
            refine e_il1 dX6_rests_51 ?_
            refine e_il2 dX6_rests_52 ?_
            refine e_il3 dX6_rests_53 ?_
            refine e_cv dX6_rests_54 vX6_224 (m_X2_weighWaits c4 ok (by omega) ha hb_ hab (by omega) ⟨hf1, hf2, hf3.choose_spec, hf4.choose_spec, jEq.rf⟩) (by decide) rfl rfl (Nat.le_of_ble_eq_true rfl) jBud0 rfl hf1 ?_
            rintro _ h1 ⟨rfl, T⟩
            replace c1 := T.2.2.2.2.at (by unfold jIn; omega) c1
            replace hf1 := T.1
            refine e_al0 dX6_rests_57 ?_
            refine e_get dX6_rests_58 fX6_44 c1 rfl ?_
            refine e_il4 dX6_rests_61 ?_
            refine e_cv dX6_rests_63 vX6_228 (m_X2_restingWaits hb1 hb2 T.1 T.2.2.1 T.2.2.2.1) (by decide) rfl rfl (Nat.le_of_ble_eq_true rfl) jBud0 rfl hf1 ?_
            rintro _ _ ⟨rfl, rfl⟩
            exact e_iret hX dX6_rests_66 (by
              rw [sp_rests, if_pos c_5, if_pos c_13, if_neg c_18, if_pos c_31, if_pos c_37, ea, eb, en]
              exact ⟨rfl, c.cw T, T.lo⟩) (fun z => z)
          · refine e_ldc dX6_rests_40 kX6_67 ?_
            exact e_iret hX dX6_rests_42 (by rw [sp_rests, if_pos c_5, if_pos c_13, if_neg c_18, if_pos c_31, if_neg c_37]; exact cAns.same c rfl) (fun z => z)
      · refine e_ldc dX6_rests_21 kX6_67 ?_
        exact e_iret hX dX6_rests_23 (by rw [sp_rests, if_pos c_5, if_pos c_13, if_pos c_18]; exact cAns.same c rfl) (fun z => z)
set_option maxRecDepth 100000 in
set_option maxHeartbeats 4000000 in
theorem lp_X7_waits {h0 : jH} {s : Nat → Int32} {w : hw} {a i b j n : Nat} (ha : a < 7) (hb : b < 7) (hi : i < 1000) (hj : j < 1000) (hn : n < 1000) {T : hw} {X : jX} (K : ∀ (h : jH) (l6 : Option Value), rTr h0 h s w T → jV cX7_waits RX7 4 X none 114 [some (.ref 218), some (.int (nI a)), some (.int (nI b)), some (.int (nI n)), some (.int (nI i)), some (.int (nI j)), l6] [] h) : ∀ (m k : Nat) (h : jH) (u : hw), n - k < m → k ≤ n → rTr h0 h s w u → g_ok u → u 4 + (n - k) < 2 ^ 29 → s_wl a i b j (n - k) k u = T → jV cX7_waits RX7 4 X none 44 [some (.ref 218), some (.int (nI a)), some (.int (nI b)), some (.int (nI n)), some (.int (nI i)), some (.int (nI j)), some (.int (nI k))] [] h := by
  intro m
  induction m with
  | zero => intros; omega
  | succ m ih =>
    intro k h u hm hk t ok hd2 hr
    refine e_il6 dX7_waits_44 ?_
    refine e_il3 dX7_waits_46 ?_
    refine e_ic_geN 114 dX7_waits_47 (by decide) (by omega) (by omega) (fun c_47 => ?_) (fun c_47 => ?_)
    · exact K _ _ (by rw [← hr, show n - k = 0 by omega]; exact t)
    · refine e_al0 dX7_waits_50 ?_
      refine e_get dX7_waits_51 fX7_31 t.1 rfl ?_
      refine e_bipush (nI 13) dX7_waits_54 (by decide) ?_
      refine e_iconst (nI 4) dX7_waits_56 (by decide) ?_
      refine e_il1 dX7_waits_57 ?_
      refine e_imulN dX7_waits_58 ?_
      refine e_iaddN dX7_waits_59 ?_
      refine e_iconst (nI 3) dX7_waits_60 (by decide) ?_
      refine e_iaddN dX7_waits_61 ?_
      refine e_il6 dX7_waits_62 ?_
      refine e_il4 dX7_waits_64 ?_
      refine e_ic_geN 73 dX7_waits_66 (by decide) (by omega) (by omega) (fun c_66 => ?_) (fun c_66 => ?_)
      · refine e_iconst (nI 0) dX7_waits_73 (by decide) ?_
        refine e_iastN dX7_waits_74 t.2.2.1 (by omega) (by decide) ?_
        refine e_abs (fun h1 hh => ?_)
        replace t := t.hs hh
        clear hh
        refine e_al0 dX7_waits_75 ?_
        refine e_get dX7_waits_76 fX7_31 t.1 rfl ?_
        refine e_bipush (nI 13) dX7_waits_79 (by decide) ?_
        refine e_iconst (nI 4) dX7_waits_81 (by decide) ?_
        refine e_il2 dX7_waits_82 ?_
        refine e_imulN dX7_waits_83 ?_
        refine e_iaddN dX7_waits_84 ?_
        refine e_iconst (nI 3) dX7_waits_85 (by decide) ?_
        refine e_iaddN dX7_waits_86 ?_
        refine e_il6 dX7_waits_87 ?_
        refine e_il5 dX7_waits_89 ?_
        refine e_ic_geN 98 dX7_waits_91 (by decide) (by omega) (by omega) (fun c_91 => ?_) (fun c_91 => ?_)
        · refine e_iconst (nI 0) dX7_waits_98 (by decide) ?_
          refine e_iastN dX7_waits_99 t.2.2.1 (by omega) (by decide) ?_
          refine e_abs (fun h1 hh => ?_)
          replace t := t.hs hh
          clear hh
          replace t := t.cg (s_wdr (a := a) (i := i) (b := b) (j := j) (d := k) (if_neg (by omega)) (if_neg (by omega)))
          refine e_al0 dX7_waits_100 ?_
          refine e_al0 dX7_waits_101 ?_
          refine e_get dX7_waits_102 fX7_31 t.1 rfl ?_
          refine e_cv dX7_waits_105 vX7_187 (m_X7_passT t (s_wd_ok ok) (by rw [s_wd_4]; omega)) (by decide) rfl rfl (Nat.le_of_ble_eq_true rfl) jBud0 rfl t.1 ?_
          rintro _ h1 ⟨rfl, t⟩
          refine e_inc6N dX7_waits_108 rfl ?_
          refine e_goto 44 dX7_waits_111 (by decide) ?_
          exact ih (k + 1) _ _ (by omega) (by omega) t (s_pass_ok (s_wd_ok ok)) (by rw [s_pass_4, s_wd_4]; omega) (by rw [← hr, show n - k = (n - (k + 1)) + 1 by omega]; rfl)
        · refine e_iconst (nI 1) dX7_waits_94 (by decide) ?_
          refine e_goto 99 dX7_waits_95 (by decide) ?_
          refine e_iastN dX7_waits_99 t.2.2.1 (by omega) (by decide) ?_
          refine e_abs (fun h1 hh => ?_)
          replace t := t.hs hh
          clear hh
          replace t := t.cg (s_wdr (a := a) (i := i) (b := b) (j := j) (d := k) (if_neg (by omega)) (if_pos c_91))
          refine e_al0 dX7_waits_100 ?_
          refine e_al0 dX7_waits_101 ?_
          refine e_get dX7_waits_102 fX7_31 t.1 rfl ?_
          refine e_cv dX7_waits_105 vX7_187 (m_X7_passT t (s_wd_ok ok) (by rw [s_wd_4]; omega)) (by decide) rfl rfl (Nat.le_of_ble_eq_true rfl) jBud0 rfl t.1 ?_
          rintro _ h1 ⟨rfl, t⟩
          refine e_inc6N dX7_waits_108 rfl ?_
          refine e_goto 44 dX7_waits_111 (by decide) ?_
          exact ih (k + 1) _ _ (by omega) (by omega) t (s_pass_ok (s_wd_ok ok)) (by rw [s_pass_4, s_wd_4]; omega) (by rw [← hr, show n - k = (n - (k + 1)) + 1 by omega]; rfl)
      · refine e_iconst (nI 1) dX7_waits_69 (by decide) ?_
        refine e_goto 74 dX7_waits_70 (by decide) ?_
        refine e_iastN dX7_waits_74 t.2.2.1 (by omega) (by decide) ?_
        refine e_abs (fun h1 hh => ?_)
        replace t := t.hs hh
        clear hh
        refine e_al0 dX7_waits_75 ?_
        refine e_get dX7_waits_76 fX7_31 t.1 rfl ?_
        refine e_bipush (nI 13) dX7_waits_79 (by decide) ?_
        refine e_iconst (nI 4) dX7_waits_81 (by decide) ?_
        refine e_il2 dX7_waits_82 ?_
        refine e_imulN dX7_waits_83 ?_
        refine e_iaddN dX7_waits_84 ?_
        refine e_iconst (nI 3) dX7_waits_85 (by decide) ?_
        refine e_iaddN dX7_waits_86 ?_
        refine e_il6 dX7_waits_87 ?_
        refine e_il5 dX7_waits_89 ?_
        refine e_ic_geN 98 dX7_waits_91 (by decide) (by omega) (by omega) (fun c_91 => ?_) (fun c_91 => ?_)
        · refine e_iconst (nI 0) dX7_waits_98 (by decide) ?_
          refine e_iastN dX7_waits_99 t.2.2.1 (by omega) (by decide) ?_
          refine e_abs (fun h1 hh => ?_)
          replace t := t.hs hh
          clear hh
          replace t := t.cg (s_wdr (a := a) (i := i) (b := b) (j := j) (d := k) (if_pos c_66) (if_neg (by omega)))
          refine e_al0 dX7_waits_100 ?_
          refine e_al0 dX7_waits_101 ?_
          refine e_get dX7_waits_102 fX7_31 t.1 rfl ?_
          refine e_cv dX7_waits_105 vX7_187 (m_X7_passT t (s_wd_ok ok) (by rw [s_wd_4]; omega)) (by decide) rfl rfl (Nat.le_of_ble_eq_true rfl) jBud0 rfl t.1 ?_
          rintro _ h1 ⟨rfl, t⟩
          refine e_inc6N dX7_waits_108 rfl ?_
          refine e_goto 44 dX7_waits_111 (by decide) ?_
          exact ih (k + 1) _ _ (by omega) (by omega) t (s_pass_ok (s_wd_ok ok)) (by rw [s_pass_4, s_wd_4]; omega) (by rw [← hr, show n - k = (n - (k + 1)) + 1 by omega]; rfl)
        · refine e_iconst (nI 1) dX7_waits_94 (by decide) ?_
          refine e_goto 99 dX7_waits_95 (by decide) ?_
          refine e_iastN dX7_waits_99 t.2.2.1 (by omega) (by decide) ?_
          refine e_abs (fun h1 hh => ?_)
          replace t := t.hs hh
          clear hh
          replace t := t.cg (s_wdr (a := a) (i := i) (b := b) (j := j) (d := k) (if_pos c_66) (if_pos c_91))
          refine e_al0 dX7_waits_100 ?_
          refine e_al0 dX7_waits_101 ?_
          refine e_get dX7_waits_102 fX7_31 t.1 rfl ?_
          refine e_cv dX7_waits_105 vX7_187 (m_X7_passT t (s_wd_ok ok) (by rw [s_wd_4]; omega)) (by decide) rfl rfl (Nat.le_of_ble_eq_true rfl) jBud0 rfl t.1 ?_
          rintro _ h1 ⟨rfl, t⟩
          refine e_inc6N dX7_waits_108 rfl ?_
          refine e_goto 44 dX7_waits_111 (by decide) ?_
          exact ih (k + 1) _ _ (by omega) (by omega) t (s_pass_ok (s_wd_ok ok)) (by rw [s_pass_4, s_wd_4]; omega) (by rw [← hr, show n - k = (n - (k + 1)) + 1 by omega]; rfl)
set_option maxRecDepth 100000 in
set_option maxHeartbeats 4000000 in
theorem m_X7_waits {h0 h : jH} {s : Nat → Int32} {w : hw} {f1 f2 : Nat → Nat} (T : rW h0 h s w f1 f2) (ok : g_ok w) (hd2 : w 4 < 2 ^ 28) {a i b j n : Nat} (ha : a < w 3) (hb : b < w 3) (hi : i < 5) (hj : j < 5) (hn : n < 1000) : jM yX7_waits cX7_waits 7 (none : Option Jvm.ClassFile.FieldType) 4 none [.ref 218, .int (nI a), .int (nI b), .int (nI n), .int (nI i), .int (nI j)] h (fun v h' => v = none ∧ rW h0 h' s w (va_up f1 (5 * i + j) (s_wt a i b j n w (5 + w (13 + 4 * a + 2)))) (va_up f2 (5 * i + j) (s_wt a i b j n w (5 + w (13 + 4 * b + 2))))) := by
  have h8 := ok.2.2.1
  have h7 := ok.2.2.2.1
  have la := (ok.2.2.2.2.2 a ha).2.2.2.1
  have lb := (ok.2.2.2.2.2 b hb).2.2.2.1
  obtain ⟨r1, r2, ⟨u0, r3⟩, r4, r5, q6, q7, E⟩ := T
  have t : rTr h h s w u0 := ⟨r1, r2, r3, r4, r5, jEq.rf⟩
  refine jM.ofF (by decide +kernel) rfl (Nat.le_of_ble_eq_true rfl) (fun X hX hI => ?_)
  show jV cX7_waits RX7 4 X none 0 [some (.ref 218), some (.int (nI a)), some (.int (nI b)), some (.int (nI n)), some (.int (nI i)), some (.int (nI j)), none] [] h
  refine e_al0 dX7_waits_0 ?_
  refine e_get dX7_waits_1 fX7_25 t.1 rfl ?_
  refine e_iconst (nI 0) dX7_waits_4 (by decide) ?_
  refine e_al0 dX7_waits_5 ?_
  refine e_get dX7_waits_6 fX7_31 t.1 rfl ?_
  refine e_iconst (nI 0) dX7_waits_9 (by decide) ?_
  refine e_cs dX7_waits_10 sX7_147 (m_X7_copyT t) (by decide) rfl rfl (Nat.le_of_ble_eq_true rfl) jBud0 ?_
  rintro _ h1 ⟨rfl, t⟩
  have okt := ok
  have q4 := hd2
  refine e_al0 dX7_waits_13 ?_
  refine e_get dX7_waits_14 fX7_31 t.1 rfl ?_
  refine e_bipush (nI 13) dX7_waits_17 (by decide) ?_
  refine e_iconst (nI 4) dX7_waits_19 (by decide) ?_
  refine e_il1 dX7_waits_20 ?_
  refine e_imulN dX7_waits_21 ?_
  refine e_iaddN dX7_waits_22 ?_
  refine e_iconst (nI 3) dX7_waits_23 (by decide) ?_
  refine e_iaddN dX7_waits_24 ?_
  refine e_iconst (nI 1) dX7_waits_25 (by decide) ?_
  refine e_iastN dX7_waits_26 t.2.2.1 (by omega) (by decide) ?_
  refine e_abs (fun h1 hh => ?_)
  replace t := t.hs hh
  replace okt := okt.peg (i := a) (v := 1) (by omega)
  clear hh
  refine e_al0 dX7_waits_27 ?_
  refine e_get dX7_waits_28 fX7_31 t.1 rfl ?_
  refine e_bipush (nI 13) dX7_waits_31 (by decide) ?_
  refine e_iconst (nI 4) dX7_waits_33 (by decide) ?_
  refine e_il2 dX7_waits_34 ?_
  refine e_imulN dX7_waits_35 ?_
  refine e_iaddN dX7_waits_36 ?_
  refine e_iconst (nI 3) dX7_waits_37 (by decide) ?_
  refine e_iaddN dX7_waits_38 ?_
  refine e_iconst (nI 1) dX7_waits_39 (by decide) ?_
  refine e_iastN dX7_waits_40 t.2.2.1 (by omega) (by decide) ?_
  refine e_abs (fun h1 hh => ?_)
  replace t := t.hs hh
  replace okt := okt.peg (i := b) (v := 1) (by omega)
  clear hh
  refine e_iconst (nI 0) dX7_waits_41 (by decide) ?_
  refine e_is6 dX7_waits_42 rfl ?_
  refine lp_X7_waits (by omega) (by omega) (by omega) (by omega) (by omega) (T := s_wt a i b j n w) (fun h l6 t => ?_) (n + 1) 0 _ _ (by omega) (by omega) t okt (by rw [show va_up (va_up w (13 + 4 * a + 3) 1) (13 + 4 * b + 3) 1 4 = w 4 from s_w1_4]; omega) rfl
  obtain ⟨q1, q2, q3, q4, q5, EE⟩ := t
  replace q6 := EE.at (by omega) q6
  replace q7 := EE.at (by omega) q7
  replace EE := E.tr EE (R := fun j => j = 226 ∨ j = 230 ∨ j = 231 ∨ j = 232 ∨ j = 233) (fun j q => q) (fun j q => by omega)
  refine e_al0 dX7_waits_114 ?_
  refine e_get dX7_waits_115 fX7_50 q1 rfl ?_
  refine e_iconst (nI 5) dX7_waits_118 (by decide) ?_
  refine e_il4 dX7_waits_119 ?_
  refine e_imulN dX7_waits_121 ?_
  refine e_il5 dX7_waits_122 ?_
  refine e_iaddN dX7_waits_124 ?_
  refine e_al0 dX7_waits_125 ?_
  refine e_get dX7_waits_126 fX7_31 q1 rfl ?_
  refine e_iconst (nI 5) dX7_waits_129 (by decide) ?_
  refine e_al0 dX7_waits_130 ?_
  refine e_get dX7_waits_131 fX7_25 q1 rfl ?_
  refine e_bipush (nI 13) dX7_waits_134 (by decide) ?_
  refine e_iconst (nI 4) dX7_waits_136 (by decide) ?_
  refine e_il1 dX7_waits_137 ?_
  refine e_imulN dX7_waits_138 ?_
  refine e_iaddN dX7_waits_139 ?_
  refine e_iconst (nI 2) dX7_waits_140 (by decide) ?_
  refine e_iaddN dX7_waits_141 ?_
  refine e_ialdN dX7_waits_142 q2 (by omega) (by decide) ?_
  refine e_iaddN dX7_waits_143 ?_
  refine e_ialdN dX7_waits_144 q3 (by omega) (by decide) ?_
  refine e_iastN dX7_waits_145 q6 (by omega) (by decide) ?_
  refine e_abs (fun h1 hh => ?_)
  replace q1 := jhs hh q1 (by omega)
  replace q2 := jhs hh q2 (by omega)
  replace q3 := jhs hh q3 (by omega)
  replace q4 := jhs hh q4.choose_spec (by omega)
  replace q5 := jhs hh q5.choose_spec (by omega)
  replace q6 := jhs_at hh q6
  replace q7 := jhs hh q7 (by omega)
  replace EE := jEq.hs hh EE (by omega)
  clear hh
  refine e_al0 dX7_waits_146 ?_
  refine e_get dX7_waits_147 fX7_53 q1 rfl ?_
  refine e_iconst (nI 5) dX7_waits_150 (by decide) ?_
  refine e_il4 dX7_waits_151 ?_
  refine e_imulN dX7_waits_153 ?_
  refine e_il5 dX7_waits_154 ?_
  refine e_iaddN dX7_waits_156 ?_
  refine e_al0 dX7_waits_157 ?_
  refine e_get dX7_waits_158 fX7_31 q1 rfl ?_
  refine e_iconst (nI 5) dX7_waits_161 (by decide) ?_
  refine e_al0 dX7_waits_162 ?_
  refine e_get dX7_waits_163 fX7_25 q1 rfl ?_
  refine e_bipush (nI 13) dX7_waits_166 (by decide) ?_
  refine e_iconst (nI 4) dX7_waits_168 (by decide) ?_
  refine e_il2 dX7_waits_169 ?_
  refine e_imulN dX7_waits_170 ?_
  refine e_iaddN dX7_waits_171 ?_
  refine e_iconst (nI 2) dX7_waits_172 (by decide) ?_
  refine e_iaddN dX7_waits_173 ?_
  refine e_ialdN dX7_waits_174 q2 (by omega) (by decide) ?_
  refine e_iaddN dX7_waits_175 ?_
  refine e_ialdN dX7_waits_176 q3 (by omega) (by decide) ?_
  refine e_iastN dX7_waits_177 q7 (by omega) (by decide) ?_
  refine e_abs (fun h1 hh => ?_)
  replace q1 := jhs hh q1 (by omega)
  replace q2 := jhs hh q2 (by omega)
  replace q3 := jhs hh q3 (by omega)
  replace q4 := jhs hh q4 (by omega)
  replace q5 := jhs hh q5 (by omega)
  replace q6 := jhs hh q6 (by omega)
  replace q7 := jhs_at hh q7
  replace EE := jEq.hs hh EE (by omega)
  clear hh
  exact e_ret hX dX7_waits_178 (⟨rfl, q1, q2, ⟨_, q3⟩, ⟨_, q4⟩, ⟨_, q5⟩, q6, q7, EE⟩) (fun z => z)
set_option maxRecDepth 100000 in
set_option maxHeartbeats 4000000 in
theorem lp_X7_isRest {G1 G2 : Nat → Nat} (hb1 : ∀ c, G1 c ≤ 99) (hb2 : ∀ c, G2 c ≤ 99) {h : jH} {s : Nat → Int32} (t1 : RO h s) (t3 : h[232]? = some (jN 25 G1)) (t4 : h[233]? = some (jN 25 G2)) {i j : Nat} (hi : i < 5) (hj : j < 5) {X : jX} (hX : jRet X (some .boolean) none (jRt (.int (jb (s_isr G1 G2 (5 * i + j)))) h)) : ∀ (m k : Nat), 5 - k < m → k ≤ 5 → jV cX7_isRest RX7 0 X none 5 [some (.ref 218), some (.int (nI i)), some (.int (nI j)), some (.int (jb (∀ q, q < k → G1 (5 * q + j) ≤ G1 (5 * i + j) ∧ G2 (5 * i + q) ≤ G2 (5 * i + j)))), some (.int (nI k))] [] h := by
  intro m
  induction m with
  | zero => intros; omega
  | succ m ih =>
    intro k hm hk
    refine e_il4 dX7_isRest_5 ?_
    refine e_iconst (nI 5) dX7_isRest_7 (by decide) ?_
    refine e_ic_geN 75 dX7_isRest_8 (by decide) (by omega) (by omega) (fun c_8 => ?_) (fun c_8 => ?_)
    · refine e_il3 dX7_isRest_75 ?_
      exact e_zret hX dX7_isRest_76 jb_nar (jRt_b ⟨fun q => (s_isr_iff hj).mpr (fun x hx => q x (by omega)), fun q x hx => (s_isr_iff hj).mp q x (by omega)⟩) (fun z => z)
    · refine e_il3 dX7_isRest_11 ?_
      refine e_if_eqB 67 dX7_isRest_12 (by decide) (fun c_12 => ?_) (fun c_12 => ?_)
      · refine e_iconst (nI 0) dX7_isRest_67 (by decide) ?_
        refine e_is3 dX7_isRest_68 rfl ?_
        refine e_inc4N dX7_isRest_69 rfl ?_
        refine e_goto 5 dX7_isRest_72 (by decide) ?_
        have r := ih (k + 1) (by omega) (by omega)
        rw [jb_fN (c := ∀ q, q < k + 1 → G1 (5 * q + j) ≤ G1 (5 * i + j) ∧ G2 (5 * i + q) ≤ G2 (5 * i + j)) (fun q => c_12 (fun x hx => q x (by omega)))] at r
        exact r
      · have b1 := hb1 (5 * k + j)
        have b2 := hb1 (5 * i + j)
        have b3 := hb2 (5 * i + k)
        have b4 := hb2 (5 * i + j)
        refine e_al0 dX7_isRest_15 ?_
        refine e_get dX7_isRest_16 fX7_50 t1 rfl ?_
        refine e_iconst (nI 5) dX7_isRest_19 (by decide) ?_
        refine e_il4 dX7_isRest_20 ?_
        refine e_imulN dX7_isRest_22 ?_
        refine e_il2 dX7_isRest_23 ?_
        refine e_iaddN dX7_isRest_24 ?_
        refine e_ialdN dX7_isRest_25 t3 (by omega) (by decide) ?_
        refine e_al0 dX7_isRest_26 ?_
        refine e_get dX7_isRest_27 fX7_50 t1 rfl ?_
        refine e_iconst (nI 5) dX7_isRest_30 (by decide) ?_
        refine e_il1 dX7_isRest_31 ?_
        refine e_imulN dX7_isRest_32 ?_
        refine e_il2 dX7_isRest_33 ?_
        refine e_iaddN dX7_isRest_34 ?_
        refine e_ialdN dX7_isRest_35 t3 (by omega) (by decide) ?_
        refine e_ic_gtN 67 dX7_isRest_36 (by decide) (by omega) (by omega) (fun c_36 => ?_) (fun c_36 => ?_)
        · refine e_iconst (nI 0) dX7_isRest_67 (by decide) ?_
          refine e_is3 dX7_isRest_68 rfl ?_
          refine e_inc4N dX7_isRest_69 rfl ?_
          refine e_goto 5 dX7_isRest_72 (by decide) ?_
          have r := ih (k + 1) (by omega) (by omega)
          rw [jb_fN (c := ∀ q, q < k + 1 → G1 (5 * q + j) ≤ G1 (5 * i + j) ∧ G2 (5 * i + q) ≤ G2 (5 * i + j)) (fun q => absurd (q k (by omega)).1 (by omega))] at r
          exact r
        · refine e_al0 dX7_isRest_39 ?_
          refine e_get dX7_isRest_40 fX7_53 t1 rfl ?_
          refine e_iconst (nI 5) dX7_isRest_43 (by decide) ?_
          refine e_il1 dX7_isRest_44 ?_
          refine e_imulN dX7_isRest_45 ?_
          refine e_il4 dX7_isRest_46 ?_
          refine e_iaddN dX7_isRest_48 ?_
          refine e_ialdN dX7_isRest_49 t4 (by omega) (by decide) ?_
          refine e_al0 dX7_isRest_50 ?_
          refine e_get dX7_isRest_51 fX7_53 t1 rfl ?_
          refine e_iconst (nI 5) dX7_isRest_54 (by decide) ?_
          refine e_il1 dX7_isRest_55 ?_
          refine e_imulN dX7_isRest_56 ?_
          refine e_il2 dX7_isRest_57 ?_
          refine e_iaddN dX7_isRest_58 ?_
          refine e_ialdN dX7_isRest_59 t4 (by omega) (by decide) ?_
          refine e_ic_gtN 67 dX7_isRest_60 (by decide) (by omega) (by omega) (fun c_60 => ?_) (fun c_60 => ?_)
          · refine e_iconst (nI 0) dX7_isRest_67 (by decide) ?_
            refine e_is3 dX7_isRest_68 rfl ?_
            refine e_inc4N dX7_isRest_69 rfl ?_
            refine e_goto 5 dX7_isRest_72 (by decide) ?_
            have r := ih (k + 1) (by omega) (by omega)
            rw [jb_fN (c := ∀ q, q < k + 1 → G1 (5 * q + j) ≤ G1 (5 * i + j) ∧ G2 (5 * i + q) ≤ G2 (5 * i + j)) (fun q => absurd (q k (by omega)).2 (by omega))] at r
            exact r
          · refine e_iconst (nI 1) dX7_isRest_63 (by decide) ?_
            refine e_goto 68 dX7_isRest_64 (by decide) ?_
            refine e_is3 dX7_isRest_68 rfl ?_
            refine e_inc4N dX7_isRest_69 rfl ?_
            refine e_goto 5 dX7_isRest_72 (by decide) ?_
            have r := ih (k + 1) (by omega) (by omega)
            rw [jb_tN (c := ∀ q, q < k + 1 → G1 (5 * q + j) ≤ G1 (5 * i + j) ∧ G2 (5 * i + q) ≤ G2 (5 * i + j)) (fun q hq => by
              by_cases e : q = k
              · rw [e]; exact ⟨c_36, c_60⟩
              · exact c_12 q (by omega))] at r
            exact r
set_option maxRecDepth 100000 in
set_option maxHeartbeats 4000000 in
theorem m_X7_isRest {G1 G2 : Nat → Nat} (hb1 : ∀ c, G1 c ≤ 99) (hb2 : ∀ c, G2 c ≤ 99) {h : jH} {s : Nat → Int32} (t1 : RO h s) (t3 : h[232]? = some (jN 25 G1)) (t4 : h[233]? = some (jN 25 G2)) {i j : Nat} (hi : i < 5) (hj : j < 5) : jM yX7_isRest cX7_isRest 5 (some .boolean) 0 none [.ref 218, .int (nI i), .int (nI j)] h (jRt (.int (jb (s_isr G1 G2 (5 * i + j)))) h) := by
  refine jM.ofF (by decide +kernel) rfl (Nat.le_of_ble_eq_true rfl) (fun X hX hI => ?_)
  show jV cX7_isRest RX7 0 X none 0 [some (.ref 218), some (.int (nI i)), some (.int (nI j)), none, none] [] h
  refine e_iconst (nI 1) dX7_isRest_0 (by decide) ?_
  refine e_is3 dX7_isRest_1 rfl ?_
  refine e_iconst (nI 0) dX7_isRest_2 (by decide) ?_
  refine e_is4 dX7_isRest_3 rfl ?_
  have r := lp_X7_isRest hb1 hb2 t1 t3 t4 hi hj hX 6 0 (by omega) (by omega)
  rw [jb_tN] at r
  · exact r
  · intro q hq; omega
set_option maxRecDepth 100000 in
set_option maxHeartbeats 4000000 in
theorem lp_X7_rests1 {h0 : jH} {s : Nat → Int32} {w : hw} (ok : g_ok w) (hd2 : w 4 < 2 ^ 28) {a b n : Nat} (ha : a < w 3) (hb : b < w 3) (hn : n < 1000) {K : Int32} {X : jX} (K_ : ∀ (h : jH) (f1 f2 : Nat → Nat) (l5 : Option Value), rW h0 h s w f1 f2 → (∀ c, c < 25 → f1 c = s_g1 w a b n c) → (∀ c, c < 25 → f2 c = s_g2 w a b n c) → jV cX7_rests RX7 5 X none 71 [some (.ref 218), some (.int (nI a)), some (.int (nI b)), some (.int (nI n)), some (.int K), l5, none] [] h) : ∀ (m q : Nat) (h : jH) (f1 f2 : Nat → Nat), 25 - q < m → q ≤ 25 → rW h0 h s w f1 f2 → (∀ c, c < q → f1 c = s_g1 w a b n c) → (∀ c, c < q → f2 c = s_g2 w a b n c) → jV cX7_rests RX7 5 X none 43 [some (.ref 218), some (.int (nI a)), some (.int (nI b)), some (.int (nI n)), some (.int K), some (.int (nI q)), none] [] h := by
  have h8 := ok.2.2.1
  have h7 := ok.2.2.2.1
  intro m
  induction m with
  | zero => intros; omega
  | succ m ih =>
    intro q h f1 f2 hm hq T hf1 hf2
    refine e_il5 dX7_rests_43 ?_
    refine e_bipush (nI 25) dX7_rests_45 (by decide) ?_
    refine e_ic_geN 71 dX7_rests_47 (by decide) (by omega) (by omega) (fun c_47 => ?_) (fun c_47 => ?_)
    · rw [show q = 25 by omega] at hf1 hf2
      exact K_ _ _ _ _ T hf1 hf2
    · refine e_al0 dX7_rests_50 ?_
      refine e_il1 dX7_rests_51 ?_
      refine e_il2 dX7_rests_52 ?_
      refine e_il3 dX7_rests_53 ?_
      refine e_il5 dX7_rests_54 ?_
      refine e_iconst (nI 5) dX7_rests_56 (by decide) ?_
      refine e_idivN dX7_rests_57 (by omega) (by omega) (by omega) ?_
      refine e_il5 dX7_rests_58 ?_
      refine e_iconst (nI 5) dX7_rests_60 (by decide) ?_
      refine e_iremN dX7_rests_61 (by omega) (by omega) (by omega) ?_
      refine e_cv dX7_rests_62 vX7_220 (m_X7_waits T ok hd2 (i := q / 5) (j := q % 5) ha hb (by omega) (by omega) hn) (by decide) rfl rfl (Nat.le_of_ble_eq_true rfl) jBud0 rfl T.1 ?_
      rintro _ h1 ⟨rfl, T⟩
      refine e_inc5N dX7_rests_65 rfl ?_
      refine e_goto 43 dX7_rests_68 (by decide) ?_
      exact ih (q + 1) _ _ _ (by omega) (by omega) T (s_fill hf1 (by rw [s_g1]) (by omega)) (s_fill hf2 (by rw [s_g2]) (by omega))
set_option maxRecDepth 100000 in
set_option maxHeartbeats 4000000 in
theorem lp_X7_rests2 {G1 G2 : Nat → Nat} (hb1 : ∀ c, G1 c ≤ 99) (hb2 : ∀ c, G2 c ≤ 99) {h : jH} {s : Nat → Int32} (t1 : RO h s) (t3 : h[232]? = some (jN 25 G1)) (t4 : h[233]? = some (jN 25 G2)) {a b n : Nat} {K r : Int32} {X : jX} {post : Option Value → jH → Prop} (hX : jRet X (some .int) none post) (hp : post (some (.int r)) h) : ∀ (m q e : Nat), 25 - q < m → q ≤ 25 → s_rs G1 G2 K (25 - q) q e = r → jV cX7_rests RX7 5 X none 77 [some (.ref 218), some (.int (nI a)), some (.int (nI b)), some (.int (nI n)), some (.int K), some (.int (nI e)), some (.int (nI q))] [] h := by
  intro m
  induction m with
  | zero => intros; omega
  | succ m ih =>
    intro q e hm hq hr
    refine e_il6 dX7_rests_77 ?_
    refine e_bipush (nI 25) dX7_rests_79 (by decide) ?_
    refine e_ic_geN 128 dX7_rests_81 (by decide) (by omega) (by omega) (fun c_81 => ?_) (fun c_81 => ?_)
    · refine e_il4 dX7_rests_128 ?_
      refine e_iconst (-1) dX7_rests_130 (by decide) ?_
      refine e_ic_ne 139 dX7_rests_131 (by decide) (fun c_131 => ?_) (fun c_131 => ?_)
      · refine e_ldc dX7_rests_139 kX7_59 ?_
        exact e_iret hX dX7_rests_141 (by rw [← hr, show 25 - q = 0 by omega, s_rs, if_neg c_131] at hp; exact hp) (fun z => z)
      · refine e_il5 dX7_rests_134 ?_
        refine e_goto 141 dX7_rests_136 (by decide) ?_
        exact e_iret hX dX7_rests_141 (by rw [← hr, show 25 - q = 0 by omega, s_rs, if_pos c_131] at hp; exact hp) (fun z => z)
    · refine e_al0 dX7_rests_84 ?_
      refine e_il6 dX7_rests_85 ?_
      refine e_iconst (nI 5) dX7_rests_87 (by decide) ?_
      refine e_idivN dX7_rests_88 (by omega) (by omega) (by omega) ?_
      refine e_il6 dX7_rests_89 ?_
      refine e_iconst (nI 5) dX7_rests_91 (by decide) ?_
      refine e_iremN dX7_rests_92 (by omega) (by omega) (by omega) ?_
      refine e_cv dX7_rests_93 vX7_224 (m_X7_isRest hb1 hb2 t1 t3 t4 (i := q / 5) (j := q % 5) (by omega) (by omega)) (by decide) rfl rfl (Nat.le_of_ble_eq_true rfl) jBud0 rfl t1 ?_
      rintro _ _ ⟨rfl, rfl⟩
      rw [show 5 * (q / 5) + q % 5 = q by omega]
      refine e_if_eqB 122 dX7_rests_96 (by decide) (fun c_96 => ?_) (fun c_96 => ?_)
      · refine e_inc6N dX7_rests_122 rfl ?_
        refine e_goto 77 dX7_rests_125 (by decide) ?_
        exact ih (q + 1) e (by omega) (by omega) (by rw [← hr, show 25 - q = (25 - (q + 1)) + 1 by omega, s_rs, if_neg c_96])
      · refine e_il5 dX7_rests_99 ?_
        refine e_il4 dX7_rests_101 ?_
        refine e_ic_ne 119 dX7_rests_103 (by decide) (fun c_103 => ?_) (fun c_103 => ?_)
        · refine e_inc5N dX7_rests_119 rfl ?_
          refine e_inc6N dX7_rests_122 rfl ?_
          refine e_goto 77 dX7_rests_125 (by decide) ?_
          exact ih (q + 1) (e + 1) (by omega) (by omega) (by rw [← hr, show 25 - q = (25 - (q + 1)) + 1 by omega, s_rs, if_pos c_96, if_neg c_103])
        · refine e_bipush (nI 10) dX7_rests_106 (by decide) ?_
          refine e_il6 dX7_rests_108 ?_
          refine e_iconst (nI 5) dX7_rests_110 (by decide) ?_
          refine e_idivN dX7_rests_111 (by omega) (by omega) (by omega) ?_
          refine e_imulN dX7_rests_112 ?_
          refine e_il6 dX7_rests_113 ?_
          refine e_iconst (nI 5) dX7_rests_115 (by decide) ?_
          refine e_iremN dX7_rests_116 (by omega) (by omega) (by omega) ?_
          refine e_iaddN dX7_rests_117 ?_
          exact e_iret hX dX7_rests_118 (by rw [← hr, show 25 - q = (25 - (q + 1)) + 1 by omega, s_rs, if_pos c_96, if_pos c_103] at hp; exact hp) (fun z => z)
set_option maxRecDepth 100000 in
set_option maxHeartbeats 4000000 in
theorem r_rests {h : jH} {S : jS} (c : RI h S) (g : SG S) {x y n k : Int32} : jM yX7_rests cX7_rests 7 (some .int) 5 none [.ref 218, .int x, .int y, .int n, .int k] h (rAns h (sp_rests x y n k S, S)) := by
  obtain ⟨⟨s, hO, s0, s1, s2, s8, s9⟩, c2, c3, hW, c5, c6, c7, c8⟩ := id c
  obtain ⟨g0, g1, g2, ⟨ok, gd, gh⟩, ⟨ga, gp⟩, gi, gt⟩ := id g
  obtain ⟨k0, k1, k2, k3, k4, k5⟩ := id ok
  obtain ⟨B, hB, hb⟩ := id c3
  obtain ⟨Pa, hP, hPa⟩ := id c5
  obtain ⟨Im, Kk, hI1, hI2, hI3, hI4⟩ := id c6
  obtain ⟨⟨x1, hx1⟩, ⟨x2, hx2⟩, ⟨x3, hx3⟩, ⟨x4, hx4⟩, ⟨x5, hx5⟩, x6, hx6⟩ := id c7
  obtain ⟨tf, ht1, ht2⟩ := id c8
  have t0 : rTr h h s S.2.2.1 x2 := ⟨hO, hW, hx2, ⟨x3, hx3⟩, ⟨x4, hx4⟩, jEq.rf⟩
  have T0 : rW h h s S.2.2.1 x5 x6 := ⟨hO, hW, ⟨x2, hx2⟩, ⟨x3, hx3⟩, ⟨x4, hx4⟩, hx5, hx6, jEq.rf⟩
  refine jM.ofF (by decide +kernel) rfl (Nat.le_of_ble_eq_true rfl) (fun X hX hI => ?_)
  show jV cX7_rests RX7 5 X none 0 [some (.ref 218), some (.int x), some (.int y), some (.int n), some (.int k), none, none] [] h
  refine e_al0 dX7_rests_0 ?_
  refine e_il1 dX7_rests_1 ?_
  refine e_cv dX7_rests_2 vX7_195 (m_X7_isPair hO hW (by omega)) (by decide) rfl rfl (Nat.le_of_ble_eq_true rfl) jBud0 rfl hO ?_
  rintro _ _ ⟨rfl, rfl⟩
  refine e_if_eqB 37 dX7_rests_5 (by decide) (fun c_5 => ?_) (fun c_5 => ?_)
  · refine e_ldc dX7_rests_37 kX7_73 ?_
    exact e_iret hX dX7_rests_39 (by rw [sp_rests, if_neg c_5]; exact rAns.same c rfl) (fun z => z)
  · refine e_al0 dX7_rests_8 ?_
    refine e_il2 dX7_rests_9 ?_
    refine e_cv dX7_rests_10 vX7_195 (m_X7_isPair hO hW (by omega)) (by decide) rfl rfl (Nat.le_of_ble_eq_true rfl) jBud0 rfl hO ?_
    rintro _ _ ⟨rfl, rfl⟩
    refine e_if_eqB 37 dX7_rests_13 (by decide) (fun c_13 => ?_) (fun c_13 => ?_)
    · refine e_ldc dX7_rests_37 kX7_73 ?_
      exact e_iret hX dX7_rests_39 (by rw [sp_rests, if_pos c_5, if_neg c_13]; exact rAns.same c rfl) (fun z => z)
    · refine e_il1 dX7_rests_16 ?_
      refine e_il2 dX7_rests_17 ?_
      refine e_ic_eq 37 dX7_rests_18 (by decide) (fun c_18 => ?_) (fun c_18 => ?_)
      · refine e_ldc dX7_rests_37 kX7_73 ?_
        exact e_iret hX dX7_rests_39 (by rw [sp_rests, if_pos c_5, if_pos c_13, if_pos c_18]; exact rAns.same c rfl) (fun z => z)
      · refine e_il3 dX7_rests_21 ?_
        refine e_iconst (nI 5) dX7_rests_22 (by decide) ?_
        refine e_bipush (nI 20) dX7_rests_23 (by decide) ?_
        refine e_cs dX7_rests_25 sX7_65 (m_X7_inR (by decide) (by decide)) (by decide) rfl rfl (Nat.le_of_ble_eq_true rfl) jBud0 ?_
        rintro _ _ ⟨rfl, rfl⟩
        refine e_if_eqB 37 dX7_rests_28 (by decide) (fun c_28 => ?_) (fun c_28 => ?_)
        · refine e_ldc dX7_rests_37 kX7_73 ?_
          exact e_iret hX dX7_rests_39 (by rw [sp_rests, if_pos c_5, if_pos c_13, if_neg c_18, if_neg c_28]; exact rAns.same c rfl) (fun z => z)
        · refine e_il4 dX7_rests_31 ?_
          refine e_iconst (-1) dX7_rests_33 (by decide) ?_
          refine e_ic_ge 40 dX7_rests_34 (by decide) (fun c_34 => ?_) (fun c_34 => ?_)
          · obtain ⟨a, ha, rfl⟩ := iN_of c_5 (by omega)
            have ea : (nI a).toNatClampNeg = a := nI_clamp (by omega)
            obtain ⟨b, hb_, rfl⟩ := iN_of c_13 (by omega)
            have eb : (nI b).toNatClampNeg = b := nI_clamp (by omega)
            obtain ⟨n, ln, hn, rfl⟩ := iR_of c_28 (by decide)
            have en : (nI n).toNatClampNeg = n := nI_clamp (by omega)
            have hab : a ≠ b := fun q => c_18 (by rw [q])
            have hb1 : ∀ c, s_g1 S.2.2.1 a b n c ≤ 99 := fun c => s_wt_f ok (k5 a ha).2.2.2.1
            have hb2 : ∀ c, s_g2 S.2.2.1 a b n c ≤ 99 := fun c => s_wt_f ok (k5 b hb_).2.2.2.1
            refine e_iconst (nI 0) dX7_rests_40 (by decide) ?_
            refine e_is5 dX7_rests_41 rfl ?_
            rw [show sp_rests (nI a) (nI b) (nI n) k S = s_rs (s_g1 S.2.2.1 a b n) (s_g2 S.2.2.1 a b n) k 25 0 0 by rw [sp_rests, if_pos c_5, if_pos c_13, if_neg c_18, if_pos c_28, if_pos c_34, ea, eb, en]] at hX
            refine lp_X7_rests1 ok (by omega) ha hb_ (by omega) (fun h f1 f2 l5 T hf1 hf2 => ?_) 26 0 h _ _ (by omega) (by omega) T0 (fun c hc => absurd hc (by omega)) (fun c hc => absurd hc (by omega))
            refine e_norm (s_g1 S.2.2.1 a b n) T.2.2.2.2.2.1 hf1 ?_
            refine e_abs (fun h1 hh => ?_)
            obtain ⟨T1, T2, ⟨u3, T3⟩, ⟨u4, T4⟩, ⟨u5, T5⟩, T6, T7, T8⟩ := T
            replace T1 := jhs hh T1 (by omega)
            replace T2 := jhs hh T2 (by omega)
            replace T3 := jhs hh T3 (by omega)
            replace T4 := jhs hh T4 (by omega)
            replace T5 := jhs hh T5 (by omega)
            replace T6 := jhs_at hh T6
            replace T7 := jhs hh T7 (by omega)
            replace T8 := jEq.hs hh T8 (by omega)
            clear hh
            refine e_norm (s_g2 S.2.2.1 a b n) T7 hf2 ?_
            refine e_abs (fun h2 hh => ?_)
            replace T1 := jhs hh T1 (by omega)
            replace T2 := jhs hh T2 (by omega)
            replace T3 := jhs hh T3 (by omega)
            replace T4 := jhs hh T4 (by omega)
            replace T5 := jhs hh T5 (by omega)
            replace T6 := jhs hh T6 (by omega)
            replace T7 := jhs_at hh T7
            replace T8 := jEq.hs hh T8 (by omega)
            clear hh
            have T : rW _ h2 s S.2.2.1 _ _ := ⟨T1, T2, ⟨u3, T3⟩, ⟨u4, T4⟩, ⟨u5, T5⟩, T6, T7, T8⟩
            refine e_iconst (nI 0) dX7_rests_71 (by decide) ?_
            refine e_is5 dX7_rests_72 rfl ?_
            refine e_iconst (nI 0) dX7_rests_74 (by decide) ?_
            refine e_is6 dX7_rests_75 rfl ?_
            refine lp_X7_rests2 hb1 hb2 T1 T6 T7 (r := s_rs (s_g1 S.2.2.1 a b n) (s_g2 S.2.2.1 a b n) k 25 0 0) hX ⟨rfl, c.rw T, T.hi⟩ 26 0 0 (by omega) (by omega) rfl
          · refine e_ldc dX7_rests_37 kX7_73 ?_
            exact e_iret hX dX7_rests_39 (by rw [sp_rests, if_pos c_5, if_pos c_13, if_neg c_18, if_pos c_28, if_neg c_34]; exact rAns.same c rfl) (fun z => z)
