set_option maxRecDepth 100000 in
set_option maxHeartbeats 4000000 in
theorem m_X5_readHearth {h0 h : jH} {n a : Nat} {fk : Int32} {B T : Nat → Nat} {d4 d0 d1 d2 d3 : Int32} {f k b p g z : Nat → Nat} (E : jEq h0 h (fun j => 5 ≤ j ∧ j < 13)) (ht : cTp h n (nI a) fk) (hD : h[6]? = some (jO 3 [.int d4, .int d0, .int d1, .int d2, .int d3, .ref 7, .ref 8, .ref 9, .ref 10, .ref 11, .ref 12])) (hF : h[7]? = some (jN 8 f)) (hK : h[8]? = some (jN 7 k)) (hR : h[9]? = some (jN 7 b)) (hP : h[10]? = some (jN 7 p)) (hG : h[11]? = some (jN 7 g)) (hZ : h[12]? = some (jN 8 z)) (hB : h[13]? = some (jN 100 B)) (hb : ∀ i, i < n → B i = T i) (hn : n ≤ 100) (hT : ∀ i, i < n → T i ≤ 255) (ha : a ≤ n) {i : Nat} (hi : i < 8) : jM yX5_readHearth cX5_readHearth 2 (some .boolean) 3 none [.ref 5, .int (nI i)] h (fun v h' => v = some (.int (jb ((if b_is n T 102 a then (s_h1 n T a).2 else .inr (1, a) : sT).isLeft = true))) ∧ cL h0 h' n fk (if b_is n T 102 a then (s_h1 n T a).2 else .inr (1, a) : sT) (fun _ => h'[6]? = some (jO 3 [.int d4, .int d0, .int d1, .int (nI (i + 1)), .int d3, .ref 7, .ref 8, .ref 9, .ref 10, .ref 11, .ref 12]) ∧ h'[7]? = some (jN 8 (va_up f i (s_h1 n T a).1)) ∧ h'[8]? = some (jN 7 k) ∧ h'[9]? = some (jN 7 b) ∧ h'[10]? = some (jN 7 p) ∧ h'[11]? = some (jN 7 g) ∧ h'[12]? = some (jN 8 z))) := by
  refine jM.ofF (by decide +kernel) rfl (Nat.le_of_ble_eq_true rfl) (fun X hX hI => ?_)
  show jV cX5_readHearth RX5 3 X none 0 [some (.ref 5), some (.int (nI i))] [] h
  refine e_al0 dX5_readHearth_0 ?_
  refine e_bipush (nI 102) dX5_readHearth_1 (by decide) ?_
  refine e_cv dX5_readHearth_3 vX5_51 (m_X5_takeByte ht hB hb hn hT (ha) (by omega)) (by decide) rfl rfl (Nat.le_of_ble_eq_true rfl) jBud0 rfl ht ?_
  rintro _ h1 ⟨rfl, hh⟩
  replace ht := jhs_at hh ht
  replace hD := jhs hh hD (by omega)
  replace hF := jhs hh hF (by omega)
  replace hK := jhs hh hK (by omega)
  replace hR := jhs hh hR (by omega)
  replace hP := jhs hh hP (by omega)
  replace hG := jhs hh hG (by omega)
  replace hZ := jhs hh hZ (by omega)
  replace hB := jhs hh hB (by omega)
  replace E := jEq.hs hh E ⟨by omega, by omega⟩
  clear hh
  refine e_if_neB 11 dX5_readHearth_6 (by decide) (fun c_6 => ?_) (fun c_6 => ?_)
  · rw [if_pos c_6, if_pos c_6] at ht
    refine e_al0 dX5_readHearth_11 ?_
    refine e_get dX5_readHearth_12 fX5_12 ht rfl ?_
    refine e_get dX5_readHearth_15 fX5_74 hD rfl ?_
    refine e_il1 dX5_readHearth_18 ?_
    refine e_al0 dX5_readHearth_19 ?_
    refine e_iconst (nI 0) dX5_readHearth_20 (by decide) ?_
    refine e_bipush (nI 20) dX5_readHearth_21 (by decide) ?_
    refine e_cv dX5_readHearth_23 vX5_55 (m_X5_takeNumber ht hB hb hn hT (by omega) (by omega) (by omega)) (by decide) rfl rfl (Nat.le_of_ble_eq_true rfl) jBud0 rfl ht ?_
    rintro _ h1 ⟨rfl, hh⟩
    replace ht := jhs_at hh ht
    replace hD := jhs hh hD (by omega)
    replace hF := jhs hh hF (by omega)
    replace hK := jhs hh hK (by omega)
    replace hR := jhs hh hR (by omega)
    replace hP := jhs hh hP (by omega)
    replace hG := jhs hh hG (by omega)
    replace hZ := jhs hh hZ (by omega)
    replace hB := jhs hh hB (by omega)
    replace E := jEq.hs hh E ⟨by omega, by omega⟩
    clear hh
    refine e_iastN dX5_readHearth_26 hF (by omega) (by decide) ?_
    refine e_abs (fun h2 hh => ?_)
    replace ht := jhs hh ht (by omega)
    replace hD := jhs hh hD (by omega)
    replace hF := jhs_at hh hF
    replace hK := jhs hh hK (by omega)
    replace hR := jhs hh hR (by omega)
    replace hP := jhs hh hP (by omega)
    replace hG := jhs hh hG (by omega)
    replace hZ := jhs hh hZ (by omega)
    replace hB := jhs hh hB (by omega)
    replace E := jEq.hs hh E ⟨by omega, by omega⟩
    clear hh
    refine e_al0 dX5_readHearth_27 ?_
    refine e_get dX5_readHearth_28 fX5_12 ht rfl ?_
    refine e_il1 dX5_readHearth_31 ?_
    refine e_iconst (nI 1) dX5_readHearth_32 (by decide) ?_
    refine e_iaddN dX5_readHearth_33 ?_
    refine e_put dX5_readHearth_34 fX5_35 hD (Nat.le_of_ble_eq_true rfl) (fun g => ⟨rfl, rfl⟩) ?_
    refine e_abs (fun h3 hh => ?_)
    replace ht := jhs hh ht (by omega)
    replace hD := jhs_at hh hD
    replace hF := jhs hh hF (by omega)
    replace hK := jhs hh hK (by omega)
    replace hR := jhs hh hR (by omega)
    replace hP := jhs hh hP (by omega)
    replace hG := jhs hh hG (by omega)
    replace hZ := jhs hh hZ (by omega)
    replace hB := jhs hh hB (by omega)
    replace E := jEq.hs hh E ⟨by omega, by omega⟩
    clear hh
    refine e_al0 dX5_readHearth_37 ?_
    refine e_get dX5_readHearth_38 fX5_12 ht rfl ?_
    refine e_get dX5_readHearth_41 fX5_74 hD rfl ?_
    refine e_il1 dX5_readHearth_44 ?_
    refine e_ialdN dX5_readHearth_45 hF (by omega) (by decide) ?_
    rw [up_at]
    refine e_iconst (-1) dX5_readHearth_46 (by decide) ?_
    refine e_ic_eq 63 dX5_readHearth_47 (by decide) (fun c_47 => ?_) (fun c_47 => ?_)
    · rw [nr_iff] at c_47
      rw [if_neg c_47, if_neg c_47] at ht
      refine e_iconst (nI 0) dX5_readHearth_63 (by decide) ?_
      exact e_zret hX dX5_readHearth_64 rfl (cL.rr E ⟨_, _, _, _, _, _, _, _, _, _, _, hD, hF, hK, hR, hP, hG, hZ⟩ ht (by rw [if_pos c_6, s_h1, s_N_f c_47] <;> rfl)) (fun z => z)
    · rw [nr_iff, Classical.not_not] at c_47
      rw [if_pos c_47, if_pos c_47] at ht
      have le_47 := n_end c_47.1
      refine e_al0 dX5_readHearth_50 ?_
      refine e_bipush (nI 59) dX5_readHearth_51 (by decide) ?_
      refine e_cv dX5_readHearth_53 vX5_51 (m_X5_takeByte ht hB hb hn hT (by omega) (by omega)) (by decide) rfl rfl (Nat.le_of_ble_eq_true rfl) jBud0 rfl ht ?_
      rintro _ h1 ⟨rfl, hh⟩
      replace ht := jhs_at hh ht
      replace hD := jhs hh hD (by omega)
      replace hF := jhs hh hF (by omega)
      replace hK := jhs hh hK (by omega)
      replace hR := jhs hh hR (by omega)
      replace hP := jhs hh hP (by omega)
      replace hG := jhs hh hG (by omega)
      replace hZ := jhs hh hZ (by omega)
      replace hB := jhs hh hB (by omega)
      replace E := jEq.hs hh E ⟨by omega, by omega⟩
      clear hh
      refine e_if_eqB 63 dX5_readHearth_56 (by decide) (fun c_56 => ?_) (fun c_56 => ?_)
      · rw [if_neg c_56, if_neg c_56] at ht
        refine e_iconst (nI 0) dX5_readHearth_63 (by decide) ?_
        exact e_zret hX dX5_readHearth_64 rfl (cL.rr E ⟨_, _, _, _, _, _, _, _, _, _, _, hD, hF, hK, hR, hP, hG, hZ⟩ ht (by rw [if_pos c_6, s_h1, s_N_t c_47, s_B_f c_56])) (fun z => z)
      · rw [if_pos c_56, if_pos c_56] at ht
        refine e_iconst (nI 1) dX5_readHearth_59 (by decide) ?_
        refine e_goto 64 dX5_readHearth_60 (by decide) ?_
        exact e_zret hX dX5_readHearth_64 rfl (by
          refine cL.ll E ⟨_, _, _, _, _, _, _, _, _, _, _, hD, hF, hK, hR, hP, hG, hZ⟩ ht (by rw [if_pos c_6, s_h1, s_N_t c_47, s_B_t c_56]) ?_
          rw [show (s_h1 n T a).1 = n_v n T (a + 1) by rw [s_h1, s_N_t c_47]]
          rw [nr_t c_47] at hF
          exact ⟨hD, hF, hK, hR, hP, hG, hZ⟩) (fun z => z)
  · rw [if_neg c_6, if_neg c_6] at ht
    refine e_iconst (nI 0) dX5_readHearth_9 (by decide) ?_
    exact e_zret hX dX5_readHearth_10 rfl (cL.rr E ⟨_, _, _, _, _, _, _, _, _, _, _, hD, hF, hK, hR, hP, hG, hZ⟩ ht (if_neg c_6)) (fun z => z)
set_option maxRecDepth 100000 in
set_option maxHeartbeats 4000000 in
theorem lp_X5_readHearths {h0 : jH} {n : Nat} {fk : Int32} {B T : Nat → Nat} (hb : ∀ i, i < n → B i = T i) (hn : n ≤ 100) (hT : ∀ i, i < n → T i ≤ 255) (hB0 : h0[13]? = some (jN 100 B)) {R : sT × hw} {X : jX} (hX : jRet X (some .boolean) none (fun v h' => v = some (.int (jb ((s_M (1 < R.2 2) R.1).isLeft = true))) ∧ cL h0 h' n fk (s_M (1 < R.2 2) R.1) (fun _ => HA h' 6 R.2))) : ∀ (m i : Nat) (h : jH) (a : Nat) (u : hw) (f k b p g z : Nat → Nat), 9 - i < m → i ≤ 8 → u 2 = i → u 3 = 0 → jEq h0 h (fun j => 5 ≤ j ∧ j < 13) → cTp h n (nI a) fk → HC h 6 u f k b p g z → HV u f k b p g → h[13]? = some (jN 100 B) → a ≤ n → s_hl n T (8 - i) (.inl a) u = R → jV cX5_readHearths RX5 4 X none 2 [some (.ref 5), some (.int (nI i))] [] h := by
  intro m
  induction m with
  | zero => intros; omega
  | succ m ih =>
    intro i h a u f k b p g z hm hi hu2 hu3 E ht hC hV hB ha hRR
    refine e_il1 dX5_readHearths_2 ?_
    refine e_bipush (nI 8) dX5_readHearths_3 (by decide) ?_
    refine e_ic_gtN 52 dX5_readHearths_5 (by decide) (by omega) (by omega) (fun c_5 => ?_) (fun c_5 => ?_)
    · omega
    · refine e_il1 dX5_readHearths_8 ?_
      refine e_iconst (nI 2) dX5_readHearths_9 (by decide) ?_
      refine e_ic_ltN 24 dX5_readHearths_10 (by decide) (by omega) (by omega) (fun c_10 => ?_) (fun c_10 => ?_)
      · refine e_il1 dX5_readHearths_24 ?_
        refine e_bipush (nI 8) dX5_readHearths_25 (by decide) ?_
        refine e_ic_neN 36 dX5_readHearths_27 (by decide) (by omega) (by omega) (fun c_27 => ?_) (fun c_27 => ?_)
        · refine e_al0 dX5_readHearths_36 ?_
          refine e_il1 dX5_readHearths_37 ?_
          refine e_cv dX5_readHearths_38 vX5_71 (m_X5_readHearth E ht hC.1 hC.2.1 hC.2.2.1 hC.2.2.2.1 hC.2.2.2.2.1 hC.2.2.2.2.2.1 hC.2.2.2.2.2.2 hB hb hn hT ha (i := i) (by omega)) (by decide) rfl rfl (Nat.le_of_ble_eq_true rfl) jBud0 rfl ht ?_
          rintro _ h1 ⟨rfl, t1⟩
          refine e_if_neB 46 dX5_readHearths_41 (by decide) (fun c_41 => ?_) (fun c_41 => ?_)
          · refine e_inc1N dX5_readHearths_46 rfl ?_
            refine e_goto 2 dX5_readHearths_49 (by decide) ?_
            have c : b_is n T 102 a := Classical.byContradiction (fun c => by rw [if_neg c] at c_41; exact absurd c_41 Bool.false_ne_true)
            obtain ⟨a', ea⟩ := sT_l c_41
            have ea0 := ea
            rw [if_pos c] at ea
            obtain ⟨ht2, q1, q2, q3, q4, q5, q6, q7⟩ := t1.2.2.1 a' ea0
            have le : a' ≤ n := by
              have z := ea
              unfold s_h1 at z
              by_cases c1 : n_ok n T 0 20 (a + 1)
              · rw [s_N_t c1] at z
                by_cases c2 : b_is n T 59 (a + 1 + n_k n T (a + 1))
                · rw [s_B_t c2] at z
                  cases z
                  have := c2.1
                  omega
                · rw [s_B_f c2] at z
                  cases z
              · rw [s_N_f c1] at z
                cases z
            subst hu2
            exact ih (u 2 + 1) _ a' (va_up (va_up u (5 + u 2) (s_h1 n T a).1) 2 (u 2 + 1)) _ _ _ _ _ _ (by omega) (by omega) up_at (by rw [up_ne (by omega), up_ne (by omega)]; exact hu3) t1.1 ht2 (HC.hth q1 q2 q3 q4 q5 q6 q7) (hV.hth hu3 (by omega)) (t1.1.at (by omega) hB0) le (by rw [← hRR, show 8 - u 2 = (8 - (u 2 + 1)) + 1 by omega, s_hl_s c ea])
          · refine e_iconst (nI 0) dX5_readHearths_44 (by decide) ?_
            exact e_zret hX dX5_readHearths_45 rfl (by
              subst hRR
              obtain ⟨q, eq⟩ := sT_r c_41
              by_cases c : b_is n T 102 a
              · have eq0 := eq
                rw [if_pos c] at eq
                rw [show 8 - i = (7 - i) + 1 by omega, s_hl_x c eq]
                exact cL.rr t1.1 t1.2.1 (t1.2.2.2 q eq0) rfl
              · have eq0 := eq
                rw [if_neg c] at eq
                rw [s_hl_f c]
                cases eq
                exact cL.rr t1.1 t1.2.1 (t1.2.2.2 _ eq0) (if_neg (by show ¬ 1 < u 2; omega))) (fun z => z)
        · omega
      · refine e_al0 dX5_readHearths_13 ?_
        refine e_bipush (nI 102) dX5_readHearths_14 (by decide) ?_
        refine e_cv dX5_readHearths_16 vX5_65 (m_X5_standsHere ht hB hb hn hT ha (by omega)) (by decide) rfl rfl (Nat.le_of_ble_eq_true rfl) jBud0 rfl ht ?_
        rintro _ _ ⟨rfl, rfl⟩
        refine e_if_neB 24 dX5_readHearths_19 (by decide) (fun c_19 => ?_) (fun c_19 => ?_)
        · refine e_il1 dX5_readHearths_24 ?_
          refine e_bipush (nI 8) dX5_readHearths_25 (by decide) ?_
          refine e_ic_neN 36 dX5_readHearths_27 (by decide) (by omega) (by omega) (fun c_27 => ?_) (fun c_27 => ?_)
          · refine e_al0 dX5_readHearths_36 ?_
            refine e_il1 dX5_readHearths_37 ?_
            refine e_cv dX5_readHearths_38 vX5_71 (m_X5_readHearth E ht hC.1 hC.2.1 hC.2.2.1 hC.2.2.2.1 hC.2.2.2.2.1 hC.2.2.2.2.2.1 hC.2.2.2.2.2.2 hB hb hn hT ha (i := i) (by omega)) (by decide) rfl rfl (Nat.le_of_ble_eq_true rfl) jBud0 rfl ht ?_
            rintro _ h1 ⟨rfl, t1⟩
            refine e_if_neB 46 dX5_readHearths_41 (by decide) (fun c_41 => ?_) (fun c_41 => ?_)
            · refine e_inc1N dX5_readHearths_46 rfl ?_
              refine e_goto 2 dX5_readHearths_49 (by decide) ?_
              have c := c_19
              obtain ⟨a', ea⟩ := sT_l c_41
              have ea0 := ea
              rw [if_pos c] at ea
              obtain ⟨ht2, q1, q2, q3, q4, q5, q6, q7⟩ := t1.2.2.1 a' ea0
              have le : a' ≤ n := by
                have z := ea
                unfold s_h1 at z
                by_cases c1 : n_ok n T 0 20 (a + 1)
                · rw [s_N_t c1] at z
                  by_cases c2 : b_is n T 59 (a + 1 + n_k n T (a + 1))
                  · rw [s_B_t c2] at z
                    cases z
                    have := c2.1
                    omega
                  · rw [s_B_f c2] at z
                    cases z
                · rw [s_N_f c1] at z
                  cases z
              subst hu2
              exact ih (u 2 + 1) _ a' (va_up (va_up u (5 + u 2) (s_h1 n T a).1) 2 (u 2 + 1)) _ _ _ _ _ _ (by omega) (by omega) up_at (by rw [up_ne (by omega), up_ne (by omega)]; exact hu3) t1.1 ht2 (HC.hth q1 q2 q3 q4 q5 q6 q7) (hV.hth hu3 (by omega)) (t1.1.at (by omega) hB0) le (by rw [← hRR, show 8 - u 2 = (8 - (u 2 + 1)) + 1 by omega, s_hl_s c ea])
            · refine e_iconst (nI 0) dX5_readHearths_44 (by decide) ?_
              exact e_zret hX dX5_readHearths_45 rfl (by
                subst hRR
                obtain ⟨q, eq⟩ := sT_r c_41
                rw [if_pos c_19] at eq
                rw [show 8 - i = (7 - i) + 1 by omega, s_hl_x c_19 eq]
                exact cL.rr t1.1 t1.2.1 (t1.2.2.2 q (by rw [if_pos c_19]; exact eq)) rfl) (fun z => z)
          · refine e_al0 dX5_readHearths_30 ?_
            refine e_iconst (nI 3) dX5_readHearths_31 (by decide) ?_
            refine e_cv dX5_readHearths_32 vX5_68 (m_X5_refuse ht) (by decide) rfl rfl (Nat.le_of_ble_eq_true rfl) jBud0 rfl ht ?_
            rintro _ h1 ⟨rfl, hh⟩
            exact e_zret hX dX5_readHearths_35 rfl (by
              subst hRR
              rw [show 8 - i = 0 by omega, s_hl_0 c_19]
              exact cL.rr (jEq.hs hh E ⟨by omega, by omega⟩) (HX.eq ⟨_, _, _, _, _, _, _, _, _, _, _, hC⟩ (jEq.hs hh (jEq.rf (P := fun j => j = 5)) rfl) (fun j q b => by unfold jIn at b; omega)) (jhs_at hh ht) rfl) (fun z => z)
        · refine e_iconst (nI 1) dX5_readHearths_22 (by decide) ?_
          exact e_zret hX dX5_readHearths_23 rfl (by
            subst hRR
            rw [s_hl_f c_19]
            exact cL.ll E ⟨_, _, _, _, _, _, _, _, _, _, _, hC⟩ ht (if_pos (by show 1 < u 2; omega)) ⟨_, _, _, _, _, _, hC, hV⟩) (fun z => z)
set_option maxRecDepth 100000 in
set_option maxHeartbeats 4000000 in
theorem m_X5_readHearths {h0 h : jH} {a : Nat} {u : hw} {f k b p g z : Nat → Nat} {n : Nat} {fk : Int32} {B T : Nat → Nat} (hb : ∀ i, i < n → B i = T i) (hn : n ≤ 100) (hT : ∀ i, i < n → T i ≤ 255) (hB0 : h0[13]? = some (jN 100 B)) (hu2 : u 2 = 0) (hu3 : u 3 = 0) (E : jEq h0 h (fun j => 5 ≤ j ∧ j < 13)) (ht : cTp h n (nI a) fk) (hC : HC h 6 u f k b p g z) (hV : HV u f k b p g) (ha : a ≤ n) : jM yX5_readHearths cX5_readHearths 2 (some .boolean) 4 none [.ref 5] h (fun v h' => v = some (.int (jb ((s_M (1 < (s_hl n T 8 (.inl a) u).2 2) (s_hl n T 8 (.inl a) u).1).isLeft = true))) ∧ cL h0 h' n fk (s_M (1 < (s_hl n T 8 (.inl a) u).2 2) (s_hl n T 8 (.inl a) u).1) (fun _ => HA h' 6 (s_hl n T 8 (.inl a) u).2)) := by
  refine jM.ofF (by decide +kernel) rfl (Nat.le_of_ble_eq_true rfl) (fun X hX hI => ?_)
  show jV cX5_readHearths RX5 4 X none 0 [some (.ref 5), none] [] h
  refine e_iconst (nI 0) dX5_readHearths_0 (by decide) ?_
  refine e_is1 dX5_readHearths_1 rfl ?_
  exact lp_X5_readHearths hb hn hT hB0 hX 10 0 h a u _ _ _ _ _ _ (by omega) (by omega) hu2 hu3 E ht hC hV (E.at (by omega) hB0) ha rfl
set_option maxRecDepth 100000 in
set_option maxHeartbeats 4000000 in
theorem m_X5_readPair {h0 h : jH} {n a : Nat} {fk : Int32} {B T : Nat → Nat} {d4 d0 d1 d3 : Int32} {H : Nat} {f k b p g z : Nat → Nat} (E : jEq h0 h (fun j => 5 ≤ j ∧ j < 13)) (ht : cTp h n (nI (a + 1)) fk) (hD : h[6]? = some (jO 3 [.int d4, .int d0, .int d1, .int (nI H), .int d3, .ref 7, .ref 8, .ref 9, .ref 10, .ref 11, .ref 12])) (hF : h[7]? = some (jN 8 f)) (hK : h[8]? = some (jN 7 k)) (hR : h[9]? = some (jN 7 b)) (hP : h[10]? = some (jN 7 p)) (hG : h[11]? = some (jN 7 g)) (hZ : h[12]? = some (jN 8 z)) (hB : h[13]? = some (jN 100 B)) (hb : ∀ i, i < n → B i = T i) (hn : n ≤ 100) (hT : ∀ i, i < n → T i ≤ 255) (ha : a + 1 ≤ n) (hH : 1 < H) (hH8 : H ≤ 8) {i : Nat} (hi : i < 7) : jM yX5_readPair cX5_readPair 2 (some .boolean) 3 none [.ref 5, .int (nI i)] h (fun v h' => v = some (.int (jb ((s_p4 n T H a).isLeft = true))) ∧ cL h0 h' n fk (s_p4 n T H a) (fun _ => h'[6]? = some (jO 3 [.int d4, .int d0, .int d1, .int (nI H), .int (nI (i + 1)), .ref 7, .ref 8, .ref 9, .ref 10, .ref 11, .ref 12]) ∧ h'[7]? = some (jN 8 f) ∧ h'[8]? = some (jN 7 k) ∧ h'[9]? = some (jN 7 (va_up b i (s_p1 n T H a).1)) ∧ h'[10]? = some (jN 7 (va_up p i (s_p2 n T H a).1)) ∧ h'[11]? = some (jN 7 (va_up g i (s_p3 n T H a).1)) ∧ h'[12]? = some (jN 8 z))) := by
  refine jM.ofF (by decide +kernel) rfl (Nat.le_of_ble_eq_true rfl) (fun X hX hI => ?_)
  show jV cX5_readPair RX5 3 X none 0 [some (.ref 5), some (.int (nI i))] [] h
  refine e_al0 dX5_readPair_0 ?_
  refine e_get dX5_readPair_1 fX5_12 ht rfl ?_
  refine e_get dX5_readPair_4 fX5_87 hD rfl ?_
  refine e_il1 dX5_readPair_7 ?_
  refine e_al0 dX5_readPair_8 ?_
  refine e_iconst (nI 0) dX5_readPair_9 (by decide) ?_
  refine e_bipush (nI 40) dX5_readPair_10 (by decide) ?_
  refine e_cv dX5_readPair_12 vX5_55 (m_X5_takeNumber ht hB hb hn hT (by omega) (by omega) (by omega)) (by decide) rfl rfl (Nat.le_of_ble_eq_true rfl) jBud0 rfl ht ?_
  rintro _ h1 ⟨rfl, hh⟩
  replace ht := jhs_at hh ht
  replace hD := jhs hh hD (by omega)
  replace hF := jhs hh hF (by omega)
  replace hK := jhs hh hK (by omega)
  replace hR := jhs hh hR (by omega)
  replace hP := jhs hh hP (by omega)
  replace hG := jhs hh hG (by omega)
  replace hZ := jhs hh hZ (by omega)
  replace hB := jhs hh hB (by omega)
  replace E := jEq.hs hh E ⟨by omega, by omega⟩
  clear hh
  refine e_iastN dX5_readPair_15 hR (by omega) (by decide) ?_
  refine e_abs (fun h2 hh => ?_)
  replace ht := jhs hh ht (by omega)
  replace hD := jhs hh hD (by omega)
  replace hF := jhs hh hF (by omega)
  replace hK := jhs hh hK (by omega)
  replace hR := jhs_at hh hR
  replace hP := jhs hh hP (by omega)
  replace hG := jhs hh hG (by omega)
  replace hZ := jhs hh hZ (by omega)
  replace hB := jhs hh hB (by omega)
  replace E := jEq.hs hh E ⟨by omega, by omega⟩
  clear hh
  refine e_al0 dX5_readPair_16 ?_
  refine e_get dX5_readPair_17 fX5_12 ht rfl ?_
  refine e_get dX5_readPair_20 fX5_87 hD rfl ?_
  refine e_il1 dX5_readPair_23 ?_
  refine e_ialdN dX5_readPair_24 hR (by omega) (by decide) ?_
  rw [up_at]
  refine e_iconst (-1) dX5_readPair_25 (by decide) ?_
  refine e_ic_eq 38 dX5_readPair_26 (by decide) (fun c_26 => ?_) (fun c_26 => ?_)
  · rw [nr_iff] at c_26
    rw [if_neg c_26, if_neg c_26] at ht
    refine e_iconst (nI 0) dX5_readPair_38 (by decide) ?_
    exact e_zret hX dX5_readPair_39 rfl (cL.rr E ⟨_, _, _, _, _, _, _, _, _, _, _, hD, hF, hK, hR, hP, hG, hZ⟩ ht (by rw [s_p4, s_p3, s_p2, s_p1, s_N_f c_26] <;> rfl)) (fun z => z)
  · rw [nr_iff, Classical.not_not] at c_26
    rw [if_pos c_26, if_pos c_26] at ht
    have le_26 := n_end c_26.1
    refine e_al0 dX5_readPair_29 ?_
    refine e_bipush (nI 44) dX5_readPair_30 (by decide) ?_
    refine e_cv dX5_readPair_32 vX5_51 (m_X5_takeByte ht hB hb hn hT (by omega) (by omega)) (by decide) rfl rfl (Nat.le_of_ble_eq_true rfl) jBud0 rfl ht ?_
    rintro _ h1 ⟨rfl, hh⟩
    replace ht := jhs_at hh ht
    replace hD := jhs hh hD (by omega)
    replace hF := jhs hh hF (by omega)
    replace hK := jhs hh hK (by omega)
    replace hR := jhs hh hR (by omega)
    replace hP := jhs hh hP (by omega)
    replace hG := jhs hh hG (by omega)
    replace hZ := jhs hh hZ (by omega)
    replace hB := jhs hh hB (by omega)
    replace E := jEq.hs hh E ⟨by omega, by omega⟩
    clear hh
    refine e_if_neB 40 dX5_readPair_35 (by decide) (fun c_35 => ?_) (fun c_35 => ?_)
    · rw [if_pos c_35, if_pos c_35] at ht
      refine e_al0 dX5_readPair_40 ?_
      refine e_get dX5_readPair_41 fX5_12 ht rfl ?_
      refine e_get dX5_readPair_44 fX5_90 hD rfl ?_
      refine e_il1 dX5_readPair_47 ?_
      refine e_al0 dX5_readPair_48 ?_
      refine e_iconst (nI 0) dX5_readPair_49 (by decide) ?_
      refine e_al0 dX5_readPair_50 ?_
      refine e_get dX5_readPair_51 fX5_12 ht rfl ?_
      refine e_get dX5_readPair_54 fX5_35 hD rfl ?_
      refine e_iconst (nI 1) dX5_readPair_57 (by decide) ?_
      refine e_isubN dX5_readPair_58 (by omega) ?_
      refine e_cv dX5_readPair_59 vX5_55 (m_X5_takeNumber ht hB hb hn hT (by omega) (by omega) (by omega)) (by decide) rfl rfl (Nat.le_of_ble_eq_true rfl) jBud0 rfl ht ?_
      rintro _ h1 ⟨rfl, hh⟩
      replace ht := jhs_at hh ht
      replace hD := jhs hh hD (by omega)
      replace hF := jhs hh hF (by omega)
      replace hK := jhs hh hK (by omega)
      replace hR := jhs hh hR (by omega)
      replace hP := jhs hh hP (by omega)
      replace hG := jhs hh hG (by omega)
      replace hZ := jhs hh hZ (by omega)
      replace hB := jhs hh hB (by omega)
      replace E := jEq.hs hh E ⟨by omega, by omega⟩
      clear hh
      refine e_iastN dX5_readPair_62 hP (by omega) (by decide) ?_
      refine e_abs (fun h2 hh => ?_)
      replace ht := jhs hh ht (by omega)
      replace hD := jhs hh hD (by omega)
      replace hF := jhs hh hF (by omega)
      replace hK := jhs hh hK (by omega)
      replace hR := jhs hh hR (by omega)
      replace hP := jhs_at hh hP
      replace hG := jhs hh hG (by omega)
      replace hZ := jhs hh hZ (by omega)
      replace hB := jhs hh hB (by omega)
      replace E := jEq.hs hh E ⟨by omega, by omega⟩
      clear hh
      refine e_al0 dX5_readPair_63 ?_
      refine e_get dX5_readPair_64 fX5_12 ht rfl ?_
      refine e_get dX5_readPair_67 fX5_90 hD rfl ?_
      refine e_il1 dX5_readPair_70 ?_
      refine e_ialdN dX5_readPair_71 hP (by omega) (by decide) ?_
      rw [up_at]
      refine e_iconst (-1) dX5_readPair_72 (by decide) ?_
      refine e_ic_eq 85 dX5_readPair_73 (by decide) (fun c_73 => ?_) (fun c_73 => ?_)
      · rw [nr_iff] at c_73
        rw [if_neg c_73, if_neg c_73] at ht
        refine e_iconst (nI 0) dX5_readPair_85 (by decide) ?_
        exact e_zret hX dX5_readPair_86 rfl (cL.rr E ⟨_, _, _, _, _, _, _, _, _, _, _, hD, hF, hK, hR, hP, hG, hZ⟩ ht (by rw [s_p4, s_p3, s_p2, s_p1, s_N_t c_26, s_B_t c_35, s_N_f c_73] <;> rfl)) (fun z => z)
      · rw [nr_iff, Classical.not_not] at c_73
        rw [if_pos c_73, if_pos c_73] at ht
        have le_73 := n_end c_73.1
        refine e_al0 dX5_readPair_76 ?_
        refine e_bipush (nI 44) dX5_readPair_77 (by decide) ?_
        refine e_cv dX5_readPair_79 vX5_51 (m_X5_takeByte ht hB hb hn hT (by omega) (by omega)) (by decide) rfl rfl (Nat.le_of_ble_eq_true rfl) jBud0 rfl ht ?_
        rintro _ h1 ⟨rfl, hh⟩
        replace ht := jhs_at hh ht
        replace hD := jhs hh hD (by omega)
        replace hF := jhs hh hF (by omega)
        replace hK := jhs hh hK (by omega)
        replace hR := jhs hh hR (by omega)
        replace hP := jhs hh hP (by omega)
        replace hG := jhs hh hG (by omega)
        replace hZ := jhs hh hZ (by omega)
        replace hB := jhs hh hB (by omega)
        replace E := jEq.hs hh E ⟨by omega, by omega⟩
        clear hh
        refine e_if_neB 87 dX5_readPair_82 (by decide) (fun c_82 => ?_) (fun c_82 => ?_)
        · rw [if_pos c_82, if_pos c_82] at ht
          refine e_al0 dX5_readPair_87 ?_
          refine e_get dX5_readPair_88 fX5_12 ht rfl ?_
          refine e_get dX5_readPair_91 fX5_93 hD rfl ?_
          refine e_il1 dX5_readPair_94 ?_
          refine e_al0 dX5_readPair_95 ?_
          refine e_iconst (nI 0) dX5_readPair_96 (by decide) ?_
          refine e_iconst (nI 1) dX5_readPair_97 (by decide) ?_
          refine e_cv dX5_readPair_98 vX5_55 (m_X5_takeNumber ht hB hb hn hT (by omega) (by omega) (by omega)) (by decide) rfl rfl (Nat.le_of_ble_eq_true rfl) jBud0 rfl ht ?_
          rintro _ h1 ⟨rfl, hh⟩
          replace ht := jhs_at hh ht
          replace hD := jhs hh hD (by omega)
          replace hF := jhs hh hF (by omega)
          replace hK := jhs hh hK (by omega)
          replace hR := jhs hh hR (by omega)
          replace hP := jhs hh hP (by omega)
          replace hG := jhs hh hG (by omega)
          replace hZ := jhs hh hZ (by omega)
          replace hB := jhs hh hB (by omega)
          replace E := jEq.hs hh E ⟨by omega, by omega⟩
          clear hh
          refine e_iastN dX5_readPair_101 hG (by omega) (by decide) ?_
          refine e_abs (fun h2 hh => ?_)
          replace ht := jhs hh ht (by omega)
          replace hD := jhs hh hD (by omega)
          replace hF := jhs hh hF (by omega)
          replace hK := jhs hh hK (by omega)
          replace hR := jhs hh hR (by omega)
          replace hP := jhs hh hP (by omega)
          replace hG := jhs_at hh hG
          replace hZ := jhs hh hZ (by omega)
          replace hB := jhs hh hB (by omega)
          replace E := jEq.hs hh E ⟨by omega, by omega⟩
          clear hh
          refine e_al0 dX5_readPair_102 ?_
          refine e_get dX5_readPair_103 fX5_12 ht rfl ?_
          refine e_il1 dX5_readPair_106 ?_
          refine e_iconst (nI 1) dX5_readPair_107 (by decide) ?_
          refine e_iaddN dX5_readPair_108 ?_
          refine e_put dX5_readPair_109 fX5_38 hD (Nat.le_of_ble_eq_true rfl) (fun g => ⟨rfl, rfl⟩) ?_
          refine e_abs (fun h3 hh => ?_)
          replace ht := jhs hh ht (by omega)
          replace hD := jhs_at hh hD
          replace hF := jhs hh hF (by omega)
          replace hK := jhs hh hK (by omega)
          replace hR := jhs hh hR (by omega)
          replace hP := jhs hh hP (by omega)
          replace hG := jhs hh hG (by omega)
          replace hZ := jhs hh hZ (by omega)
          replace hB := jhs hh hB (by omega)
          replace E := jEq.hs hh E ⟨by omega, by omega⟩
          clear hh
          refine e_al0 dX5_readPair_112 ?_
          refine e_get dX5_readPair_113 fX5_12 ht rfl ?_
          refine e_get dX5_readPair_116 fX5_93 hD rfl ?_
          refine e_il1 dX5_readPair_119 ?_
          refine e_ialdN dX5_readPair_120 hG (by omega) (by decide) ?_
          rw [up_at]
          refine e_iconst (-1) dX5_readPair_121 (by decide) ?_
          refine e_ic_eq 138 dX5_readPair_122 (by decide) (fun c_122 => ?_) (fun c_122 => ?_)
          · rw [nr_iff] at c_122
            rw [if_neg c_122, if_neg c_122] at ht
            refine e_iconst (nI 0) dX5_readPair_138 (by decide) ?_
            exact e_zret hX dX5_readPair_139 rfl (cL.rr E ⟨_, _, _, _, _, _, _, _, _, _, _, hD, hF, hK, hR, hP, hG, hZ⟩ ht (by rw [s_p4, s_p3, s_p2, s_p1, s_N_t c_26, s_B_t c_35, s_N_t c_73, s_B_t c_82, s_N_f c_122] <;> rfl)) (fun z => z)
          · rw [nr_iff, Classical.not_not] at c_122
            rw [if_pos c_122, if_pos c_122] at ht
            have le_122 := n_end c_122.1
            refine e_al0 dX5_readPair_125 ?_
            refine e_bipush (nI 59) dX5_readPair_126 (by decide) ?_
            refine e_cv dX5_readPair_128 vX5_51 (m_X5_takeByte ht hB hb hn hT (by omega) (by omega)) (by decide) rfl rfl (Nat.le_of_ble_eq_true rfl) jBud0 rfl ht ?_
            rintro _ h1 ⟨rfl, hh⟩
            replace ht := jhs_at hh ht
            replace hD := jhs hh hD (by omega)
            replace hF := jhs hh hF (by omega)
            replace hK := jhs hh hK (by omega)
            replace hR := jhs hh hR (by omega)
            replace hP := jhs hh hP (by omega)
            replace hG := jhs hh hG (by omega)
            replace hZ := jhs hh hZ (by omega)
            replace hB := jhs hh hB (by omega)
            replace E := jEq.hs hh E ⟨by omega, by omega⟩
            clear hh
            refine e_if_eqB 138 dX5_readPair_131 (by decide) (fun c_131 => ?_) (fun c_131 => ?_)
            · rw [if_neg c_131, if_neg c_131] at ht
              refine e_iconst (nI 0) dX5_readPair_138 (by decide) ?_
              exact e_zret hX dX5_readPair_139 rfl (cL.rr E ⟨_, _, _, _, _, _, _, _, _, _, _, hD, hF, hK, hR, hP, hG, hZ⟩ ht (by rw [s_p4, s_p3, s_p2, s_p1, s_N_t c_26, s_B_t c_35, s_N_t c_73, s_B_t c_82, s_N_t c_122, s_B_f c_131])) (fun z => z)
            · rw [if_pos c_131, if_pos c_131] at ht
              refine e_iconst (nI 1) dX5_readPair_134 (by decide) ?_
              refine e_goto 139 dX5_readPair_135 (by decide) ?_
              exact e_zret hX dX5_readPair_139 rfl (by
                refine cL.ll E ⟨_, _, _, _, _, _, _, _, _, _, _, hD, hF, hK, hR, hP, hG, hZ⟩ ht (by rw [s_p4, s_p3, s_p2, s_p1, s_N_t c_26, s_B_t c_35, s_N_t c_73, s_B_t c_82, s_N_t c_122, s_B_t c_131]) ?_
                rw [nr_t c_26] at hR
                rw [nr_t c_73] at hP
                rw [nr_t c_122] at hG
                rw [show (s_p1 n T H a).1 = _ by rw [s_p1, s_N_t c_26], show (s_p2 n T H a).1 = _ by rw [s_p2, s_p1, s_N_t c_26, s_B_t c_35, s_N_t c_73], show (s_p3 n T H a).1 = _ by rw [s_p3, s_p2, s_p1, s_N_t c_26, s_B_t c_35, s_N_t c_73, s_B_t c_82, s_N_t c_122]]
                exact ⟨hD, hF, hK, hR, hP, hG, hZ⟩) (fun z => z)
        · rw [if_neg c_82, if_neg c_82] at ht
          refine e_iconst (nI 0) dX5_readPair_85 (by decide) ?_
          exact e_zret hX dX5_readPair_86 rfl (cL.rr E ⟨_, _, _, _, _, _, _, _, _, _, _, hD, hF, hK, hR, hP, hG, hZ⟩ ht (by rw [s_p4, s_p3, s_p2, s_p1, s_N_t c_26, s_B_t c_35, s_N_t c_73, s_B_f c_82] <;> rfl)) (fun z => z)
    · rw [if_neg c_35, if_neg c_35] at ht
      refine e_iconst (nI 0) dX5_readPair_38 (by decide) ?_
      exact e_zret hX dX5_readPair_39 rfl (cL.rr E ⟨_, _, _, _, _, _, _, _, _, _, _, hD, hF, hK, hR, hP, hG, hZ⟩ ht (by rw [s_p4, s_p3, s_p2, s_p1, s_N_t c_26, s_B_f c_35] <;> rfl)) (fun z => z)
theorem s_B_le {n : Nat} {T : Nat → Nat} {c : Nat} {x : sT} {a : Nat} (h : s_B n T c x = .inl a) : a ≤ n := by
  cases x with
  | inr q => cases h
  | inl b =>
    by_cases c2 : b_is n T c b
    · rw [s_B_t c2] at h
      cases h
      exact c2.1
    · rw [s_B_f c2] at h
      cases h
set_option maxRecDepth 100000 in
set_option maxHeartbeats 4000000 in
theorem lp_X5_readPairs {h0 : jH} {n : Nat} {fk : Int32} {B T : Nat → Nat} (hb : ∀ i, i < n → B i = T i) (hn : n ≤ 100) (hT : ∀ i, i < n → T i ≤ 255) (hB0 : h0[13]? = some (jN 100 B)) {R : sT × hw} {X : jX} (hX : jRet X (some .boolean) none (fun v h' => v = some (.int (jb ((s_en n R.1).isLeft = true))) ∧ cL h0 h' n fk (s_en n R.1) (fun _ => HA h' 6 R.2))) : ∀ (m i : Nat) (h : jH) (a : Nat) (u : hw) (f k b p g z : Nat → Nat) (l2 : Option Value), 8 - i < m → i ≤ 7 → u 3 = i → 1 < u 2 → u 2 ≤ 8 → jEq h0 h (fun j => 5 ≤ j ∧ j < 13) → cTp h n (nI a) fk → HC h 6 u f k b p g z → HV u f k b p g → h[13]? = some (jN 100 B) → a ≤ n → s_pl n T (7 - i) (.inl a) u = R → jV cX5_readPairs RX5 4 X none 2 [some (.ref 5), some (.int (nI i)), l2] [] h := by
  intro m
  induction m with
  | zero => intros; omega
  | succ m ih =>
    intro i h a u f k b p g z l2 hm hi hu3 hu2 hu8 E ht hC hV hB ha hRR
    refine e_il1 dX5_readPairs_2 ?_
    refine e_bipush (nI 7) dX5_readPairs_3 (by decide) ?_
    refine e_ic_gtN 92 dX5_readPairs_5 (by decide) (by omega) (by omega) (fun c_5 => ?_) (fun c_5 => ?_)
    · omega
    · refine e_al0 dX5_readPairs_8 ?_
      refine e_get dX5_readPairs_9 fX5_26 ht rfl ?_
      refine e_al0 dX5_readPairs_12 ?_
      refine e_get dX5_readPairs_13 fX5_22 ht rfl ?_
      refine e_ic_ltN 21 dX5_readPairs_16 (by decide) (by omega) (by omega) (fun c_16 => ?_) (fun c_16 => ?_)
      · refine e_al0 dX5_readPairs_21 ?_
        refine e_get dX5_readPairs_22 fX5_18 ht rfl ?_
        refine e_al0 dX5_readPairs_25 ?_
        refine e_get dX5_readPairs_26 fX5_26 ht rfl ?_
        refine e_ialdN dX5_readPairs_29 hB (by omega) (by decide) ?_
        rw [hb a c_16]
        refine e_cs dX5_readPairs_30 sX5_77 (m_X5_kindOfLetter (x := T a) (hT a c_16)) (by decide) rfl rfl (Nat.le_of_ble_eq_true rfl) jBud0 ?_
        rintro _ _ ⟨rfl, rfl⟩
        have kl := s_kd_le (T a)
        refine e_is2 dX5_readPairs_33 rfl ?_
        refine e_il2 dX5_readPairs_34 ?_
        refine e_if_neN 44 dX5_readPairs_35 (by decide) (by omega) (fun c_35 => ?_) (fun c_35 => ?_)
        · refine e_il1 dX5_readPairs_44 ?_
          refine e_bipush (nI 7) dX5_readPairs_45 (by decide) ?_
          refine e_ic_neN 56 dX5_readPairs_47 (by decide) (by omega) (by omega) (fun c_47 => ?_) (fun c_47 => ?_)
          · refine e_al0 dX5_readPairs_56 ?_
            refine e_dup dX5_readPairs_57 rfl ?_
            refine e_get dX5_readPairs_58 fX5_26 ht rfl ?_
            refine e_iconst (nI 1) dX5_readPairs_61 (by decide) ?_
            refine e_iaddN dX5_readPairs_62 ?_
            refine e_put dX5_readPairs_63 fX5_26 ht (Nat.le_of_ble_eq_true rfl) (fun g => ⟨rfl, rfl⟩) ?_
            refine e_abs (fun h1 hh => ?_)
            replace ht := jhs_at hh ht
            replace hC := HC.hs hh hC (by omega)
            replace hB := jhs hh hB (by omega)
            replace E := jEq.hs hh E ⟨by omega, by omega⟩
            clear hh
            refine e_al0 dX5_readPairs_66 ?_
            refine e_get dX5_readPairs_67 fX5_12 ht rfl ?_
            refine e_get dX5_readPairs_70 fX5_81 hC.1 rfl ?_
            refine e_il1 dX5_readPairs_73 ?_
            refine e_il2 dX5_readPairs_74 ?_
            refine e_iastN dX5_readPairs_75 hC.2.2.1 (by omega) (by decide) ?_
            refine e_abs (fun h2 hh => ?_)
            replace ht := jhs hh ht (by omega)
            replace hC := HC.hsetk hh hC
            replace hB := jhs hh hB (by omega)
            replace E := jEq.hs hh E ⟨by omega, by omega⟩
            clear hh
            refine e_al0 dX5_readPairs_76 ?_
            refine e_il1 dX5_readPairs_77 ?_
            refine e_cv dX5_readPairs_78 vX5_84 (m_X5_readPair E ht hC.1 hC.2.1 hC.2.2.1 hC.2.2.2.1 hC.2.2.2.2.1 hC.2.2.2.2.2.1 hC.2.2.2.2.2.2 hB hb hn hT c_16 hu2 hu8 (i := i) (by omega)) (by decide) rfl rfl (Nat.le_of_ble_eq_true rfl) jBud0 rfl ht ?_
            rintro _ h1 ⟨rfl, t1⟩
            refine e_if_neB 86 dX5_readPairs_81 (by decide) (fun c_81 => ?_) (fun c_81 => ?_)
            · refine e_inc1N dX5_readPairs_86 rfl ?_
              refine e_goto 2 dX5_readPairs_89 (by decide) ?_
              obtain ⟨a', ea⟩ := sT_l c_81
              obtain ⟨ht2, q1, q2, q3, q4, q5, q6, q7⟩ := t1.2.2.1 a' ea
              have le : a' ≤ n := s_B_le ea
              subst hu3
              exact ih (u 3 + 1) _ a' (s_pw u (s_kd (T a)) (s_p1 n T (u 2) a).1 (s_p2 n T (u 2) a).1 (s_p3 n T (u 2) a).1) _ _ _ _ _ _ _ (by omega) (by omega) s_pw_3 (by rw [s_pw_lo (by omega) (by omega)]; exact hu2) (by rw [s_pw_lo (by omega) (by omega)]; exact hu8) t1.1 ht2 (HC.pw q1 q2 q3 q4 q5 q6 q7) (hV.pw hu8) (t1.1.at (by omega) hB0) le (by rw [← hRR, show 7 - u 3 = (7 - (u 3 + 1)) + 1 by omega, s_pl_s ⟨c_16, c_35⟩ ea])
            · refine e_iconst (nI 0) dX5_readPairs_84 (by decide) ?_
              exact e_zret hX dX5_readPairs_85 rfl (by
                subst hRR
                obtain ⟨q, eq⟩ := sT_r c_81
                rw [show 7 - i = (6 - i) + 1 by omega, s_pl_x ⟨c_16, c_35⟩ eq]
                exact cL.rr t1.1 t1.2.1 (t1.2.2.2 q eq) rfl) (fun z => z)
          · refine e_al0 dX5_readPairs_50 ?_
            refine e_iconst (nI 3) dX5_readPairs_51 (by decide) ?_
            refine e_cv dX5_readPairs_52 vX5_68 (m_X5_refuse ht) (by decide) rfl rfl (Nat.le_of_ble_eq_true rfl) jBud0 rfl ht ?_
            rintro _ h1 ⟨rfl, hh⟩
            exact e_zret hX dX5_readPairs_55 rfl (by
              subst hRR
              rw [show 7 - i = 0 by omega, s_pl_0 ⟨c_16, c_35⟩]
              exact cL.rr (jEq.hs hh E ⟨by omega, by omega⟩) (HX.eq ⟨_, _, _, _, _, _, _, _, _, _, _, hC⟩ (jEq.hs hh (jEq.rf (P := fun j => j = 5)) rfl) (fun j q b => by unfold jIn at b; omega)) (jhs_at hh ht) rfl) (fun z => z)
        · refine e_al0 dX5_readPairs_38 ?_
          refine e_iconst (nI 1) dX5_readPairs_39 (by decide) ?_
          refine e_cv dX5_readPairs_40 vX5_68 (m_X5_refuse ht) (by decide) rfl rfl (Nat.le_of_ble_eq_true rfl) jBud0 rfl ht ?_
          rintro _ h1 ⟨rfl, hh⟩
          exact e_zret hX dX5_readPairs_43 rfl (by
            subst hRR
            rw [s_pl_f (fun z => by have := z.2; omega)]
            exact cL.rr (jEq.hs hh E ⟨by omega, by omega⟩) (HX.eq ⟨_, _, _, _, _, _, _, _, _, _, _, hC⟩ (jEq.hs hh (jEq.rf (P := fun j => j = 5)) rfl) (fun j q b => by unfold jIn at b; omega)) (jhs_at hh ht) (if_pos c_16)) (fun z => z)
      · refine e_iconst (nI 1) dX5_readPairs_19 (by decide) ?_
        exact e_zret hX dX5_readPairs_20 rfl (by
          subst hRR
          rw [s_pl_f (fun z => by have := z.1; omega)]
          exact cL.ll E ⟨_, _, _, _, _, _, _, _, _, _, _, hC⟩ ht (if_neg (by omega)) ⟨_, _, _, _, _, _, hC, hV⟩) (fun z => z)
set_option maxRecDepth 100000 in
set_option maxHeartbeats 4000000 in
theorem m_X5_readPairs {h0 h : jH} {a : Nat} {u : hw} {f k b p g z : Nat → Nat} {n : Nat} {fk : Int32} {B T : Nat → Nat} (hb : ∀ i, i < n → B i = T i) (hn : n ≤ 100) (hT : ∀ i, i < n → T i ≤ 255) (hB0 : h0[13]? = some (jN 100 B)) (hu3 : u 3 = 0) (hu2 : 1 < u 2) (hu8 : u 2 ≤ 8) (E : jEq h0 h (fun j => 5 ≤ j ∧ j < 13)) (ht : cTp h n (nI a) fk) (hC : HC h 6 u f k b p g z) (hV : HV u f k b p g) (ha : a ≤ n) : jM yX5_readPairs cX5_readPairs 3 (some .boolean) 4 none [.ref 5] h (fun v h' => v = some (.int (jb ((s_en n (s_pl n T 7 (.inl a) u).1).isLeft = true))) ∧ cL h0 h' n fk (s_en n (s_pl n T 7 (.inl a) u).1) (fun _ => HA h' 6 (s_pl n T 7 (.inl a) u).2)) := by
  refine jM.ofF (by decide +kernel) rfl (Nat.le_of_ble_eq_true rfl) (fun X hX hI => ?_)
  show jV cX5_readPairs RX5 4 X none 0 [some (.ref 5), none, none] [] h
  refine e_iconst (nI 0) dX5_readPairs_0 (by decide) ?_
  refine e_is1 dX5_readPairs_1 rfl ?_
  exact lp_X5_readPairs hb hn hT hB0 hX 9 0 h a u _ _ _ _ _ _ none (by omega) (by omega) hu3 hu2 hu8 E ht hC hV (E.at (by omega) hB0) ha rfl
theorem s_hl_le {n : Nat} {T : Nat → Nat} : ∀ (k : Nat) {a a' : Nat} {u : hw}, a ≤ n → (s_hl n T k (.inl a) u).1 = .inl a' → a' ≤ n
  | 0, a, a', u, h, e => by
    by_cases c : b_is n T 102 a
    · rw [s_hl_0 c] at e; cases e
    · rw [s_hl_f c] at e; cases e; exact h
  | k + 1, a, a', u, h, e => by
    by_cases c : b_is n T 102 a
    · cases e2 : (s_h1 n T a).2 with
      | inr q => rw [s_hl_x c e2] at e; cases e
      | inl b => rw [s_hl_s c e2] at e; exact s_hl_le k (s_B_le e2) e
    · rw [s_hl_f c] at e; cases e; exact h
theorem s_M_l {P : Prop} [Decidable P] {x : sT} {a : Nat} (h : s_M P x = .inl a) : x = .inl a := by
  cases x with
  | inr q => cases h
  | inl b =>
    by_cases c : P
    · have : s_M P (.inl b) = .inl b := if_pos c
      rw [this] at h; exact h
    · have : s_M P (.inl b) = .inr (1, b) := if_neg c
      rw [this] at h; cases h
set_option maxRecDepth 100000 in
set_option maxHeartbeats 4000000 in
theorem m_X5_readWhole {h : jH} {n : Nat} {a fk : Int32} {B T : Nat → Nat} (ht : cTp h n a fk) (hx : HX h 6) (hB : h[13]? = some (jN 100 B)) (hb : ∀ i, i < n → B i = T i) (hn : n ≤ 100) (hT : ∀ i, i < n → T i ≤ 255) : jM yX5_readWhole cX5_readWhole 1 (some .boolean) 5 none [.ref 5] h (fun v h' => v = some (.int (jb ((s_hx n T).isLeft = true))) ∧ cL h h' n fk (s_hx n T) (fun _ => HA h' 6 (s_ps n T).2)) := by
  obtain ⟨d4, d0, d1, d2, d3, f, k, b, p, g, z, hD, hF, hK, hR, hP, hG, hZ⟩ := hx
  have hB0 := hB
  have E : jEq h h (fun j => 5 ≤ j ∧ j < 13) := jEq.rf
  refine jM.ofF (by decide +kernel) rfl (Nat.le_of_ble_eq_true rfl) (fun X hX hI => ?_)
  show jV cX5_readWhole RX5 5 X none 0 [some (.ref 5)] [] h
  refine e_al0 dX5_readWhole_0 ?_
  refine e_iconst (nI 0) dX5_readWhole_1 (by decide) ?_
  refine e_put dX5_readWhole_2 fX5_26 ht (Nat.le_of_ble_eq_true rfl) (fun g => ⟨rfl, rfl⟩) ?_
  refine e_abs (fun h1 hh => ?_)
  replace ht := jhs_at hh ht
  replace hD := jhs hh hD (by omega)
  replace hF := jhs hh hF (by omega)
  replace hK := jhs hh hK (by omega)
  replace hR := jhs hh hR (by omega)
  replace hP := jhs hh hP (by omega)
  replace hG := jhs hh hG (by omega)
  replace hZ := jhs hh hZ (by omega)
  replace hB := jhs hh hB (by omega)
  replace E := jEq.hs hh E ⟨by omega, by omega⟩
  clear hh
  refine e_al0 dX5_readWhole_5 ?_
  refine e_get dX5_readWhole_6 fX5_12 ht rfl ?_
  refine e_iconst (nI 0) dX5_readWhole_9 (by decide) ?_
  refine e_put dX5_readWhole_10 fX5_32 hD (Nat.le_of_ble_eq_true rfl) (fun g => ⟨rfl, rfl⟩) ?_
  refine e_abs (fun h2 hh => ?_)
  replace ht := jhs hh ht (by omega)
  replace hD := jhs_at hh hD
  replace hF := jhs hh hF (by omega)
  replace hK := jhs hh hK (by omega)
  replace hR := jhs hh hR (by omega)
  replace hP := jhs hh hP (by omega)
  replace hG := jhs hh hG (by omega)
  replace hZ := jhs hh hZ (by omega)
  replace hB := jhs hh hB (by omega)
  replace E := jEq.hs hh E ⟨by omega, by omega⟩
  clear hh
  refine e_al0 dX5_readWhole_13 ?_
  refine e_get dX5_readWhole_14 fX5_12 ht rfl ?_
  refine e_iconst (nI 0) dX5_readWhole_17 (by decide) ?_
  refine e_put dX5_readWhole_18 fX5_35 hD (Nat.le_of_ble_eq_true rfl) (fun g => ⟨rfl, rfl⟩) ?_
  refine e_abs (fun h3 hh => ?_)
  replace ht := jhs hh ht (by omega)
  replace hD := jhs_at hh hD
  replace hF := jhs hh hF (by omega)
  replace hK := jhs hh hK (by omega)
  replace hR := jhs hh hR (by omega)
  replace hP := jhs hh hP (by omega)
  replace hG := jhs hh hG (by omega)
  replace hZ := jhs hh hZ (by omega)
  replace hB := jhs hh hB (by omega)
  replace E := jEq.hs hh E ⟨by omega, by omega⟩
  clear hh
  refine e_al0 dX5_readWhole_21 ?_
  refine e_get dX5_readWhole_22 fX5_12 ht rfl ?_
  refine e_iconst (nI 0) dX5_readWhole_25 (by decide) ?_
  refine e_put dX5_readWhole_26 fX5_38 hD (Nat.le_of_ble_eq_true rfl) (fun g => ⟨rfl, rfl⟩) ?_
  refine e_abs (fun h4 hh => ?_)
  replace ht := jhs hh ht (by omega)
  replace hD := jhs_at hh hD
  replace hF := jhs hh hF (by omega)
  replace hK := jhs hh hK (by omega)
  replace hR := jhs hh hR (by omega)
  replace hP := jhs hh hP (by omega)
  replace hG := jhs hh hG (by omega)
  replace hZ := jhs hh hZ (by omega)
  replace hB := jhs hh hB (by omega)
  replace E := jEq.hs hh E ⟨by omega, by omega⟩
  clear hh
  refine e_al0 dX5_readWhole_29 ?_
  refine e_cv dX5_readWhole_30 vX5_41 (m_X5_readLaw E ht hD hF hK hR hP hG hZ hB hb hn hT) (by decide) rfl rfl (Nat.le_of_ble_eq_true rfl) jBud0 rfl ht ?_
  rintro _ h1 ⟨rfl, t1⟩
  refine e_if_eqB 54 dX5_readWhole_33 (by decide) (fun c_33 => ?_) (fun c_33 => ?_)
  · refine e_iconst (nI 0) dX5_readWhole_54 (by decide) ?_
    exact e_zret hX dX5_readWhole_55 rfl (by
      obtain ⟨q, eq⟩ := sT_r c_33
      exact cL.rr t1.1 t1.2.1 (t1.2.2.2 q eq) (by rw [s_hx, s_ps, s_hm, s_hs, eq, s_hl_r]; show s_en n (s_pl n T 7 (.inr q) (s_lu n T)).1 = _; rw [s_pl_r]; rfl)) (fun z => z)
  · obtain ⟨a1, el⟩ := sT_l c_33
    obtain ⟨q0, q1, q2, q3, q4, q5, q6, q7⟩ := t1.2.2.1 a1 el
    refine e_al0 dX5_readWhole_36 ?_
    refine e_cv dX5_readWhole_37 vX5_45 (m_X5_readHearths hb hn hT hB0 (u := s_lu n T) rfl rfl t1.1 q0 (show HC _ 6 (s_lu n T) f k b p g z from ⟨q1, q2, q3, q4, q5, q6, q7⟩) ⟨fun i hi => absurd hi (Nat.not_lt_zero i), fun i hi => absurd hi (Nat.not_lt_zero i)⟩ (s_B_le el)) (by decide) rfl rfl (Nat.le_of_ble_eq_true rfl) jBud0 rfl q0 ?_
    rintro _ h2 ⟨rfl, t2⟩
    refine e_if_eqB 54 dX5_readWhole_40 (by decide) (fun c_40 => ?_) (fun c_40 => ?_)
    · refine e_iconst (nI 0) dX5_readWhole_54 (by decide) ?_
      exact e_zret hX dX5_readWhole_55 rfl (by
        obtain ⟨q, eq⟩ := sT_r c_40
        exact cL.rr t2.1 t2.2.1 (t2.2.2.2 q eq) (by rw [s_hx, s_ps, show s_hm n T = .inr q by rw [s_hm, s_hs, el]; exact eq, s_pl_r]; rfl)) (fun z => z)
    · obtain ⟨a2, em⟩ := sT_l c_40
      have r0 := t2.2.2.1 a2 em
      have ehm : s_hm n T = .inl a2 := by rw [s_hm, s_hs, el]; exact em
      have ess : s_hs n T = s_hl n T 8 (.inl a1) (s_lu n T) := by rw [s_hs, el]
      rw [← ess] at r0 em
      have cgt : 1 < (s_hs n T).2 2 := Classical.byContradiction (fun z => by
        cases e2 : (s_hs n T).1 with
        | inr q => rw [e2] at em; cases em
        | inl b2 =>
          rw [e2] at em
          have : s_M (1 < (s_hs n T).2 2) (.inl b2) = .inr (1, b2) := if_neg z
          rw [this] at em
          cases em)
      have sh := s_hs_ok (n := n) (T := T)
      have sh3 := sh.2.1
      have sh2 := sh.1.1.2.2.1
      obtain ⟨f2, k2_, b2_, p2_, g2_, z2_, hC2, hV2⟩ := r0.2
      refine e_al0 dX5_readWhole_43 ?_
      refine e_cv dX5_readWhole_44 vX5_48 (m_X5_readPairs hb hn hT hB0 sh3 cgt sh2 t2.1 r0.1 hC2 hV2 (by have z := s_M_l em; rw [ess] at z; exact s_hl_le 8 (s_B_le el) z)) (by decide) rfl rfl (Nat.le_of_ble_eq_true rfl) jBud0 rfl r0.1 ?_
      rintro _ h3 ⟨rfl, t3⟩
      refine e_if_eqB 54 dX5_readWhole_47 (by decide) (fun c_47 => ?_) (fun c_47 => ?_)
      · refine e_iconst (nI 0) dX5_readWhole_54 (by decide) ?_
        exact e_zret hX dX5_readWhole_55 rfl (by
          obtain ⟨q, eq⟩ := sT_r c_47
          exact cL.rr t3.1 t3.2.1 (t3.2.2.2 q eq) (by rw [s_hx, s_ps, ehm]; exact eq)) (fun z => z)
      · refine e_iconst (nI 1) dX5_readWhole_50 (by decide) ?_
        refine e_goto 55 dX5_readWhole_51 (by decide) ?_
        exact e_zret hX dX5_readWhole_55 rfl (by
          obtain ⟨a4, eq⟩ := sT_l c_47
          exact cL.ll t3.1 t3.2.1 (t3.2.2.1 a4 eq).1 (by rw [s_hx, s_ps, ehm]; exact eq) (by rw [s_ps, ehm]; exact (t3.2.2.1 a4 eq).2)) (fun z => z)
set_option maxRecDepth 100000 in
set_option maxHeartbeats 4000000 in
theorem c_house {h : jH} {S : jS} (c : CI h S) (g : SG S) : jM yX6_house cX6_house 2 (some .int) 6 none [.ref 0] h (cAns h (sp_house S)) := by
  obtain ⟨c1, c2, c3, c4, c5, c6, c7, c8⟩ := id c
  obtain ⟨g0, g1, g2, ⟨ok, gd, gh⟩, ⟨ga, gp⟩, gi, gt⟩ := id g
  obtain ⟨k0, k1, k2, k3, k4, k5⟩ := id ok
  obtain ⟨f, k, b, p, gg, z, hC, hV⟩ := id c4
  obtain ⟨nx, rf, hnx, hac, -⟩ := id c5
  obtain ⟨⟨at_, ht⟩, hx6, B, hB, hb⟩ := id c3
  obtain ⟨⟨rfi, hi1, hi2⟩, hi3⟩ := id c6
  obtain ⟨hk1, fk_, hk2, hk3⟩ := id c8
  refine jM.ofF (by decide +kernel) rfl (Nat.le_of_ble_eq_true rfl) (fun X hX hI => ?_)
  show jV cX6_house RX6 6 X none 0 [some (.ref 0), none] [] h
  refine e_al0 dX6_house_0 ?_
  refine e_get dX6_house_1 fX6_19 c1 rfl ?_
  refine e_cv dX6_house_4 vX6_115 (m_X5_readWhole ht hx6 hB hb g2.1 g2.2.1) (by decide) rfl rfl (Nat.le_of_ble_eq_true rfl) jBud0 rfl ht ?_
  rintro _ h1 ⟨rfl, t⟩
  have c1_ := t.1.at (by omega) c1
  refine e_is1 dX6_house_7 rfl ?_
  refine e_al0 dX6_house_8 ?_
  refine e_get dX6_house_9 fX6_19 c1_ rfl ?_
  have htl : ∃ aa ff : Int32, cTp h1 S.2.1.1 aa ff ∧ (∀ a, s_hx S.2.1.1 S.2.1.2.1 = .inl a → aa = nI a ∧ ff = nI S.2.1.2.2) ∧ (∀ q, s_hx S.2.1.1 S.2.1.2.1 = .inr q → aa = nI q.2 ∧ ff = nI q.1) := by
    cases e : s_hx S.2.1.1 S.2.1.2.1 with
    | inl a =>
      refine ⟨_, _, (t.2.2.1 a e).1, fun b z => ?_, fun q z => nomatch z⟩
      cases z
      exact ⟨rfl, rfl⟩
    | inr q =>
      refine ⟨_, _, t.2.2.2 q e, (fun b z => nomatch z), fun b z => ?_⟩
      cases z
      exact ⟨rfl, rfl⟩
  obtain ⟨aa, ff, ht_, hll, hrr⟩ := htl
  refine e_iconst (nI 0) dX6_house_12 (by decide) ?_
  refine e_put dX6_house_13 fX6_118 ht_ (Nat.le_of_ble_eq_true rfl) (fun g => ⟨rfl, rfl⟩) ?_
  refine e_abs (fun h4 hh => ?_)
  replace c1_ := jhs hh c1_ (by omega)
  have ht2 := jhs_at hh ht_
  have EE := jEq.hs hh t.1 ⟨by omega, by omega⟩
  refine e_il1 dX6_house_16 ?_
  refine e_if_neB 31 dX6_house_17 (by decide) (fun c_17 => ?_) (fun c_17 => ?_)
  · obtain ⟨a4, eq⟩ := sT_l c_17
    have hq := t.2.2.1 a4 eq
    have sok := s_ps_ok eq
    have hD2 := hq.2.hs hh (by omega)
    have htt := ht2
    refine e_al0 dX6_house_31 ?_
    refine e_get dX6_house_32 fX6_26 c1_ rfl ?_
    refine e_al0 dX6_house_35 ?_
    refine e_get dX6_house_36 fX6_19 c1_ rfl ?_
    refine e_get dX6_house_39 fX6_125 htt rfl ?_
    refine e_cv dX6_house_42 vX6_128 (m_become (c4.x.eq EE (fun j q b => by unfold jIn at b; omega)) hD2 sok.1.2.2.1 sok.1.2.2.2.1 (by omega)) (by decide) rfl rfl (Nat.le_of_ble_eq_true rfl) jBud0 rfl (HX.sh (c4.x.eq EE (fun j q b => by unfold jIn at b; omega))).choose_spec ?_
    rintro _ h2 ⟨rfl, hNw, E2⟩
    replace c1_ := E2.at (by unfold jIn; omega) c1_
    have hac_ := E2.at (by unfold jIn; omega) (EE.at (by omega) hac)
    refine e_al0 dX6_house_45 ?_
    refine e_get dX6_house_46 fX6_33 c1_ rfl ?_
    refine e_cv dX6_house_49 vX6_132 (m_X0_forgetAll (ap2 := S.2.2.2.1.2) (cActs.eq (EE.tr E2 (R := fun j => (5 ≤ j ∧ j < 13) ∨ (14 ≤ j ∧ j < 21)) (fun j q => by omega) (fun j q => by unfold jIn at q; omega)) c5 (fun j _ _ q => by omega))) (by decide) rfl rfl (Nat.le_of_ble_eq_true rfl) jBud0 rfl hac_ ?_
    rintro _ h3 ⟨rfl, hAc, E4⟩
    replace c1_ := E4.at (by omega) c1_
    replace hNw := hNw.eq E4 (fun j q b => by unfold jIn at b; omega)
    obtain ⟨f2, k2_, b2_, p2_, g2_, z2_, hCn, hV2⟩ := id hNw
    refine e_al0 dX6_house_52 ?_
    refine e_get dX6_house_53 fX6_26 c1_ rfl ?_
    refine e_get dX6_house_56 fX6_135 hCn.1 rfl ?_
    exact e_iret hX dX6_house_59 (by
      rw [sp_house_l eq]
      obtain ⟨ea, ef⟩ := hll a4 eq
      subst ea
      subst ef
      have E3 : jEq h h3 (fun j => (5 ≤ j ∧ j < 13) ∨ (14 ≤ j ∧ j < 22)) := (EE.tr E2 (R := fun j => (5 ≤ j ∧ j < 13) ∨ (14 ≤ j ∧ j < 22)) (fun j q => by omega) (fun j q => by unfold jIn at q; omega)).tr E4 (fun j q => q) (fun j q => by omega)
      refine ⟨rfl, ⟨cTop.eq E3 c1 (by omega), cRows.eq E3 c2 (fun j _ _ q => by omega), ⟨⟨_, E4.at (by omega) (E2.at (by unfold jIn; omega) ht2)⟩, (((HA.x hq.2).eq (jEq.hs hh (jEq.rf (P := fun j => j = 5)) rfl) (fun j q b => by unfold jIn at b; omega)).eq E2 (fun j q b => by unfold jIn at q b; omega)).eq E4 (fun j q b => by unfold jIn at b; omega), _, E3.at (by omega) hB, fun i hi => absurd hi (Nat.not_lt_zero i)⟩, hNw, hAc, cImg.eq E3 c6 (fun j _ _ q => by omega), cFor.eq E3 c7 (fun j _ _ q => by omega), cAsk.eq E3 c8 (fun j _ _ q => by omega)⟩, E3.mono (fun j q => by unfold jLo; omega)⟩) (fun z => z)
  · refine e_ldc dX6_house_20 kX6_121 ?_
    refine e_al0 dX6_house_22 ?_
    refine e_get dX6_house_23 fX6_19 c1_ rfl ?_
    refine e_get dX6_house_26 fX6_122 ht2 rfl ?_
    refine e_isub dX6_house_29 ?_
    exact e_iret hX dX6_house_30 (by
      obtain ⟨q, eq⟩ := sT_r c_17
      rw [sp_house_r eq]
      obtain ⟨ea, ef⟩ := hrr q eq
      subst ea
      subst ef
      refine ⟨rfl, ⟨cTop.eq EE c1 (by omega), cRows.eq EE c2 (fun j _ _ q => by omega), ⟨⟨_, ht2⟩, HX.eq t.2.1 (jEq.hs hh (jEq.rf (P := fun j => j = 5)) rfl) (fun j q b => by unfold jIn at b; omega), _, jhs hh (t.1.at (by omega) hB) (by omega), fun i hi => absurd hi (Nat.not_lt_zero i)⟩, cNow.eq EE c4 (fun j _ _ q => by omega), cActs.eq EE c5 (fun j _ _ q => by omega), cImg.eq EE c6 (fun j _ _ q => by omega), cFor.eq EE c7 (fun j _ _ q => by omega), cAsk.eq EE c8 (fun j _ _ q => by omega)⟩, EE.mono (fun j q => by unfold jLo; omega)⟩) (fun z => z)
