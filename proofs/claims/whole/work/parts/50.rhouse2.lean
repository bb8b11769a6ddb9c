theorem M_E {n : Nat} {T : Nat → Nat} {x : sT} {v : Int32} (hv : ∀ a, x = .inl a → v = nI (tk n T a)) : s_M (v = nI 0) x = s_en n x := by
  cases x with
  | inr q => rfl
  | inl a =>
    have e : v = nI 0 ↔ ¬ a < n := by
      rw [hv a rfl, nI_eq (by have := tk_le n T a; omega) (by omega)]
      exact tk_0
    show (if v = nI 0 then _ else _) = (if a < n then _ else _)
    by_cases z : a < n
    · rw [if_pos z, if_neg (fun y => e.mp y z)]
    · rw [if_neg z, if_pos (e.mpr z)]
theorem s_M_P {P : Prop} [Decidable P] {x : sT} (h : (s_M P x).isLeft = true) : P := by
  cases x with
  | inr q => cases h
  | inl a => exact Classical.byContradiction (fun z => by
      have e : s_M P (.inl a) = .inr (1, a) := if_neg z
      rw [e] at h
      cases h)
theorem sI_r {q : Nat × Nat} : ¬ (Sum.inr q : sT).isLeft = true := Bool.false_ne_true
set_option maxRecDepth 100000 in
set_option maxHeartbeats 4000000 in
theorem lp_X7_houseH {h0 : jH} {s : Nat → Int32} {n : Nat} {B T : Nat → Nat} (hb : ∀ i, i < n → B i = T i) (hn : n ≤ 100) (hT : ∀ i, i < n → T i ≤ 255) (hB0 : h0[223]? = some (jN 100 B)) {R : sT × hw} {l1 : Option Value} {X : jX} (K : ∀ h : jH, rS h0 h s n T R.1 R.2 → jV cX7_house RX7 6 X none 139 [some (.ref 218), l1] [] h) : ∀ (m : Nat) (h : jH) (x : sT) (u : hw), (if x.isLeft = true then 10 - u 2 else 0) < m → u 2 ≤ 8 → s_hl n T (8 - u 2) x u = R → rS h0 h s n T x u → jV cX7_house RX7 6 X none 108 [some (.ref 218), l1] [] h := by
  intro m
  induction m with
  | zero => intros; omega
  | succ m ih =>
    intro h x u hm h8 hR t
    obtain ⟨s1, hO, ⟨F0, F1, F8, F9⟩, hl, hr, hU, E⟩ := id t
    refine e_al0 dX7_house_108 ?_
    refine e_cv dX7_house_109 vX7_113 (m_X7_isWell hn t) (by decide) rfl rfl (Nat.le_of_ble_eq_true rfl) jBud0 rfl hO ?_
    rintro _ _ ⟨rfl, rfl⟩
    refine e_if_eqB 139 dX7_house_112 (by decide) (fun c_112 => ?_) (fun c_112 => ?_)
    · obtain ⟨q, rfl⟩ := sT_r c_112
      exact K _ (t.cg (by rw [← hR, s_hl_r]) (by rw [← hR, s_hl_r]))
    · obtain ⟨a, rfl⟩ := sT_l c_112
      obtain ⟨ha, F2, F3, F5, F6, F74⟩ := hl a rfl
      have t5 := tk_le n T a
      refine e_al0 dX7_house_115 ?_
      refine e_get dX7_house_116 fX7_107 hO rfl ?_
      rw [F6]
      refine e_iconst (nI 1) dX7_house_119 (by decide) ?_
      refine e_ic_neN 139 dX7_house_120 (by decide) (by omega) (by omega) (fun c_120 => ?_) (fun c_120 => ?_)
      · have nb : ¬ b_is n T 102 a := fun z => c_120 (tk_l.mpr ⟨z.1, by have := z.2; omega, by have := z.2; omega⟩)
        exact K _ (t.cg (by rw [← hR, s_hl_f nb]) (by rw [← hR, s_hl_f nb]))
      · refine e_al0 dX7_house_123 ?_
        refine e_get dX7_house_124 fX7_104 hO rfl ?_
        rw [(F74 (by omega)).1, vl_b (fun y => by have := y.2; have := (tk_l.mp c_120).2; omega) (tk_l.mp c_120).1]
        have ta := hT a (tk_l.mp c_120).1
        refine e_bipush (nI 102) dX7_house_127 (by decide) ?_
        refine e_ic_neN 139 dX7_house_129 (by decide) (by omega) (by omega) (fun c_129 => ?_) (fun c_129 => ?_)
        · have nb : ¬ b_is n T 102 a := fun z => c_129 z.2
          exact K _ (t.cg (by rw [← hR, s_hl_f nb]) (by rw [← hR, s_hl_f nb]))
        · refine e_al0 dX7_house_132 ?_
          refine e_cv dX7_house_133 vX7_136 (m_X7_readsHearth hb hn hT hB0 t ⟨(tk_l.mp c_120).1, c_129⟩ h8) (by decide) rfl rfl (Nat.le_of_ble_eq_true rfl) jBud0 rfl hO ?_
          rintro _ h1 ⟨rfl, t⟩
          refine e_goto 108 dX7_house_136 (by decide) ?_
          have bb : b_is n T 102 a := ⟨(tk_l.mp c_120).1, c_129⟩
          by_cases h9 : u 2 < 8
          · rw [if_pos h9, if_pos h9] at t
            cases e : (s_h1 n T a).2 with
            | inr q =>
              rw [e, if_neg sI_r] at t
              exact ih _ (.inr q) u (by rw [if_neg sI_r]; rw [if_pos sI_l] at hm; omega) h8 (by rw [← hR, s_hl_r, show 8 - u 2 = (7 - u 2) + 1 by omega, s_hl_x bb e]) t
            | inl a' =>
              rw [e, if_pos sI_l] at t
              exact ih _ (.inl a') _ (by rw [if_pos sI_l] at hm ⊢; rw [up_at]; omega) (by rw [up_at]; omega) (by rw [← hR, up_at, show 8 - u 2 = (8 - (u 2 + 1)) + 1 by omega, s_hl_s bb e]) t
          · rw [if_neg h9, if_neg h9] at t
            exact ih _ (.inr (3, a)) u (by rw [if_neg sI_r]; rw [if_pos sI_l] at hm; omega) h8 (by rw [← hR, s_hl_r, show 8 - u 2 = 0 by omega, s_hl_0 bb]) t
set_option maxRecDepth 100000 in
set_option maxHeartbeats 4000000 in
theorem lp_X7_houseP {h0 : jH} {s : Nat → Int32} {n : Nat} {B T : Nat → Nat} (hb : ∀ i, i < n → B i = T i) (hn : n ≤ 100) (hT : ∀ i, i < n → T i ≤ 255) (hB0 : h0[223]? = some (jN 100 B)) {R : sT × hw} {l1 : Option Value} {X : jX} (K : ∀ h : jH, rS h0 h s n T R.1 R.2 → jV cX7_house RX7 6 X none 190 [some (.ref 218), l1] [] h) : ∀ (m : Nat) (h : jH) (x : sT) (u : hw), (if x.isLeft = true then 9 - u 3 else 0) < m → u 2 ≤ 8 → (x.isLeft = true → 1 < u 2) → u 3 ≤ 7 → s_pl n T (7 - u 3) x u = R → rS h0 h s n T x u → jV cX7_house RX7 6 X none 158 [some (.ref 218), l1] [] h := by
  intro m
  induction m with
  | zero => intros; omega
  | succ m ih =>
    intro h x u hm h8 h2 h7 hR t
    obtain ⟨s1, hO, ⟨F0, F1, F8, F9⟩, hl, hr, hU, E⟩ := id t
    refine e_al0 dX7_house_158 ?_
    refine e_cv dX7_house_159 vX7_113 (m_X7_isWell hn t) (by decide) rfl rfl (Nat.le_of_ble_eq_true rfl) jBud0 rfl hO ?_
    rintro _ _ ⟨rfl, rfl⟩
    refine e_if_eqB 190 dX7_house_162 (by decide) (fun c_162 => ?_) (fun c_162 => ?_)
    · obtain ⟨q, rfl⟩ := sT_r c_162
      exact K _ (t.cg (by rw [← hR, s_pl_r]) (by rw [← hR, s_pl_r]))
    · obtain ⟨a, rfl⟩ := sT_l c_162
      obtain ⟨ha, F2, F3, F5, F6, F74⟩ := hl a rfl
      have t5 := tk_le n T a
      refine e_al0 dX7_house_165 ?_
      refine e_get dX7_house_166 fX7_107 hO rfl ?_
      rw [F6]
      refine e_iconst (nI 1) dX7_house_169 (by decide) ?_
      refine e_ic_neN 190 dX7_house_170 (by decide) (by omega) (by omega) (fun c_170 => ?_) (fun c_170 => ?_)
      · have nb : ¬ (a < n ∧ 0 < s_kd (T a)) := fun z => c_170 (tk_l.mpr ⟨z.1, kd_l z.2⟩)
        exact K _ (t.cg (by rw [← hR, s_pl_f nb]) (by rw [← hR, s_pl_f nb]))
      · refine e_al0 dX7_house_173 ?_
        refine e_get dX7_house_174 fX7_104 hO rfl ?_
        rw [(F74 (by omega)).1, vl_b (fun y => by have := y.2; have := (tk_l.mp c_170).2; omega) (tk_l.mp c_170).1]
        have ta := hT a (tk_l.mp c_170).1
        refine e_cs dX7_house_177 sX7_130 (m_X7_kindOf (x := T a) (by omega)) (by decide) rfl rfl (Nat.le_of_ble_eq_true rfl) jBud0 ?_
        rintro _ _ ⟨rfl, rfl⟩
        have kl := s_kd_le (T a)
        refine e_if_leN 190 dX7_house_180 (by decide) (by omega) (fun c_180 => ?_) (fun c_180 => ?_)
        · have nb : ¬ (a < n ∧ 0 < s_kd (T a)) := fun z => by have := z.2; omega
          exact K _ (t.cg (by rw [← hR, s_pl_f nb]) (by rw [← hR, s_pl_f nb]))
        · refine e_al0 dX7_house_183 ?_
          refine e_cv dX7_house_184 vX7_143 (m_X7_readsPair hb hn hT hB0 t ⟨(tk_l.mp c_170).1, c_180⟩ h8 (h2 sI_l) h7) (by decide) rfl rfl (Nat.le_of_ble_eq_true rfl) jBud0 rfl hO ?_
          rintro _ h1 ⟨rfl, t⟩
          refine e_goto 158 dX7_house_187 (by decide) ?_
          have bb : a < n ∧ 0 < s_kd (T a) := ⟨(tk_l.mp c_170).1, c_180⟩
          by_cases h9 : u 3 < 7
          · rw [if_pos h9, if_pos h9] at t
            cases e : s_p4 n T (u 2) a with
            | inr q =>
              rw [e, if_neg sI_r] at t
              exact ih _ (.inr q) u (by rw [if_neg sI_r]; rw [if_pos sI_l] at hm; omega) h8 (fun z => absurd z sI_r) h7 (by rw [← hR, s_pl_r, show 7 - u 3 = (6 - u 3) + 1 by omega, s_pl_x bb e]) t
            | inl a' =>
              rw [e, if_pos sI_l] at t
              exact ih _ (.inl a') _ (by rw [if_pos sI_l] at hm ⊢; rw [s_pw_3]; omega) (by rw [s_pw_lo (by omega) (by omega)]; omega) (fun _ => by rw [s_pw_lo (by omega) (by omega)]; exact h2 sI_l) (by rw [s_pw_3]; omega) (by rw [← hR, s_pw_3, show 7 - u 3 = (7 - (u 3 + 1)) + 1 by omega, s_pl_s bb e]) t
          · rw [if_neg h9, if_neg h9] at t
            exact ih _ (.inr (3, a)) u (by rw [if_neg sI_r]; rw [if_pos sI_l] at hm; omega) h8 (fun z => absurd z sI_r) h7 (by rw [← hR, s_pl_r, show 7 - u 3 = 0 by omega, s_pl_0 bb]) t
set_option maxRecDepth 100000 in
set_option maxHeartbeats 4000000 in
theorem lp_X7_houseZ {h0 : jH} {s : Nat → Int32} {X : jX} (K : ∀ (h : jH) (l1 : Option Value), RO h s → h[225]? = some (jN 41 (fun _ => 0)) → jEq h0 h (fun j => j = 218 ∨ j = 225) → jV cX7_house RX7 6 X none 21 [some (.ref 218), l1] [] h) : ∀ (m i : Nat) (h : jH) (f : Nat → Nat), 41 - i < m → i ≤ 41 → RO h s → h[225]? = some (jN 41 f) → jEq h0 h (fun j => j = 218 ∨ j = 225) → (∀ k, k < i → f k = 0) → jV cX7_house RX7 6 X none 2 [some (.ref 218), some (.int (nI i))] [] h := by
  intro m
  induction m with
  | zero => intros; omega
  | succ m ih =>
    intro i h f hm hi hO hU E hf
    refine e_il1 dX7_house_2 ?_
    refine e_bipush (nI 41) dX7_house_3 (by decide) ?_
    refine e_ic_geN 21 dX7_house_5 (by decide) (by omega) (by omega) (fun c_5 => ?_) (fun c_5 => ?_)
    · refine e_norm (fun _ => 0) hU (fun k hk => hf k (by omega)) ?_
      refine e_abs (fun h1 hh => ?_)
      exact K _ _ (jhs hh hO (by omega)) (jhs_at hh hU) (jEq.hs hh E (Or.inr rfl))
    · refine e_al0 dX7_house_8 ?_
      refine e_get dX7_house_9 fX7_28 hO rfl ?_
      refine e_il1 dX7_house_12 ?_
      refine e_iconst (nI 0) dX7_house_13 (by decide) ?_
      refine e_iastN dX7_house_14 hU (by omega) (by decide) ?_
      refine e_abs (fun h1 hh => ?_)
      replace hO := jhs hh hO (by omega)
      replace hU := jhs_at hh hU
      replace E := jEq.hs hh E (Or.inr rfl)
      clear hh
      refine e_inc1N dX7_house_15 rfl ?_
      refine e_goto 2 dX7_house_18 (by decide) ?_
      exact ih (i + 1) _ _ (by omega) (by omega) hO hU E (fun k hk => by
        unfold va_up
        by_cases e : k = i
        · rw [if_pos e]
        · rw [if_neg e]; exact hf k (by omega))
set_option maxRecDepth 100000 in
set_option maxHeartbeats 4000000 in
theorem r_house {h : jH} {S : jS} (c : RI h S) (g : SG S) : jM yX7_house cX7_house 2 (some .int) 6 none [.ref 218] h (rAns h (sp_house S)) := by
  obtain ⟨⟨s, hO, s0, s1, s2, s8, s9⟩, c2, c3, hW, c5, c6, c7, c8⟩ := id c
  obtain ⟨g0, g1, g2, ⟨ok, gd, gh⟩, ⟨ga, gp⟩, gi, gt⟩ := id g
  obtain ⟨k0, k1, k2, k3, k4, k5⟩ := id ok
  obtain ⟨B, hB, hb⟩ := id c3
  obtain ⟨Pa, hP, hPa⟩ := id c5
  obtain ⟨Im, Kk, hI1, hI2, hI3, hI4⟩ := id c6
  obtain ⟨⟨x1, hx1⟩, ⟨x2, hx2⟩, ⟨x3, hx3⟩, ⟨x4, hx4⟩, ⟨x5, hx5⟩, x6, hx6⟩ := id c7
  obtain ⟨tf, ht1, ht2⟩ := id c8
  have t0 : rTr h h s S.2.2.1 x2 := ⟨hO, hW, hx2, ⟨x3, hx3⟩, ⟨x4, hx4⟩, jEq.rf⟩
  refine jM.ofF (by decide +kernel) rfl (Nat.le_of_ble_eq_true rfl) (fun X hX hI => ?_)
  show jV cX7_house RX7 6 X none 0 [some (.ref 218), none] [] h
  refine e_iconst (nI 0) dX7_house_0 (by decide) ?_
  refine e_is1 dX7_house_1 rfl ?_
  refine lp_X7_houseZ (fun h1 l1 hO hU E => ?_) 42 0 h x1 (by omega) (by omega) hO hx1 jEq.rf (fun k hk => absurd hk (by omega))
  refine e_al0 dX7_house_21 ?_
  refine e_iconst (nI 0) dX7_house_22 (by decide) ?_
  refine e_put dX7_house_23 fX7_95 hO (Nat.le_of_ble_eq_true rfl) (fun g => ⟨rfl, rfl⟩) ?_
  refine e_abs (fun h1 hh => ?_)
  replace hO : RO h1 (upd s 4 (nI 0)) := jhs_at hh hO
  replace hU := jhs hh hU (by omega)
  replace E := jEq.hs hh E (Or.inl rfl)
  clear hh
  refine e_al0 dX7_house_26 ?_
  refine e_iconst (-1) dX7_house_27 (by decide) ?_
  refine e_put dX7_house_28 fX7_110 hO (Nat.le_of_ble_eq_true rfl) (fun g => ⟨rfl, rfl⟩) ?_
  refine e_abs (fun h2 hh => ?_)
  replace hO : RO h2 (upd (upd s 4 (nI 0)) 3 (-1)) := jhs_at hh hO
  replace hU := jhs hh hU (by omega)
  replace E := jEq.hs hh E (Or.inl rfl)
  clear hh
  refine e_al0 dX7_house_31 ?_
  refine e_cv dX7_house_32 vX7_120 (m_X7_advances hb g2.1 g2.2.1 hO ((upd_ne (by decide)).trans ((upd_ne (by decide)).trans s1)) (a := 0) ((upd_ne (by decide)).trans upd_at) (Nat.zero_le _) (E.at (by omega) hB)) (by decide) rfl rfl (Nat.le_of_ble_eq_true rfl) jBud0 rfl hO ?_
  rintro _ h3 ⟨rfl, tl⟩
  have t : rS h h3 s S.2.1.1 S.2.1.2.1 (.inl 0) (fun _ => 0) := by
    obtain ⟨s2', q1, ⟨q2, q3, q4, q5, q6, q7⟩, ⟨q8, q9, q10⟩, q11⟩ := tl
    exact ⟨s2', q1, ⟨q2.trans ((upd_ne (by decide)).trans (upd_ne (by decide))), q3.trans ((upd_ne (by decide)).trans ((upd_ne (by decide)).trans s1)), q6.trans ((upd_ne (by decide)).trans (upd_ne (by decide))), q7.trans ((upd_ne (by decide)).trans (upd_ne (by decide)))⟩, fun b z => by
      cases z
      exact ⟨Nat.zero_le _, q4.trans ((upd_ne (by decide)).trans (upd_ne (by decide))), q5.trans upd_at, q8, q9, q10⟩, (fun q z => nomatch z), q11.at (by omega) hU, E.tr q11 (fun j q => q) (fun j q => Or.inl q)⟩
  clear hO hU E
  obtain ⟨s1, hO, ⟨F0, F1, F8, F9⟩, hl, hr, hU, E⟩ := id t
  have KH : ∀ h1 : jH, rS h h1 s S.2.1.1 S.2.1.2.1 (s_l3 S.2.1.1 S.2.1.2.1) (s_lu S.2.1.1 S.2.1.2.1) → jV cX7_house RX7 6 X none 108 [some (.ref 218), l1] [] h1 := fun h1 t => by
    refine lp_X7_houseH hb g2.1 g2.2.1 hB (R := s_hs S.2.1.1 S.2.1.2.1) (fun h t => ?_) 12 _ _ _ (by split <;> omega) (by rw [(s_lu_ok (n := S.2.1.1) (T := S.2.1.2.1)).2.2]; omega) (by rw [(s_lu_ok (n := S.2.1.1) (T := S.2.1.2.1)).2.2]; rfl) t
    have hso := s_hs_ok (n := S.2.1.1) (T := S.2.1.2.1)
    have hs8 := hso.1.1.2.2.1
    obtain ⟨s1, hO, ⟨F0, F1, F8, F9⟩, hl, hr, hU, E⟩ := id t
    refine e_al0 dX7_house_139 ?_
    refine e_al0 dX7_house_140 ?_
    refine e_get dX7_house_141 fX7_28 hO rfl ?_
    refine e_iconst (nI 2) dX7_house_144 (by decide) ?_
    refine e_ialdN dX7_house_145 hU (by omega) (by decide) ?_
    refine e_iconst (nI 1) dX7_house_146 (by decide) ?_
    refine e_ic_leN 154 dX7_house_147 (by decide) (by omega) (by omega) (fun c_147 => ?_) (fun c_147 => ?_)
    · refine e_iconst (nI 0) dX7_house_154 (by decide) ?_
      refine e_cv dX7_house_155 vX7_139 (m_X7_must hb g2.1 g2.2.1 hB t (P := 1 < (s_hs S.2.1.1 S.2.1.2.1).2 2) (jb_fN (by omega)).symm) (by decide) rfl rfl (Nat.le_of_ble_eq_true rfl) jBud0 rfl hO ?_
      rintro _ h1 ⟨rfl, t⟩
      refine lp_X7_houseP hb g2.1 g2.2.1 hB (R := s_ps S.2.1.1 S.2.1.2.1) (fun h t => ?_) 11 _ _ _ (by split <;> omega) hso.1.1.2.2.1 (fun z => s_M_P z) (by omega) (by rw [hso.2.1]; rfl) t
      obtain ⟨s1, hO, ⟨F0, F1, F8, F9⟩, hl, hr, hU, E⟩ := id t
      refine e_al0 dX7_house_190 ?_
      refine e_al0 dX7_house_191 ?_
      refine e_get dX7_house_192 fX7_107 hO rfl ?_
      refine e_if_ne 202 dX7_house_195 (by decide) (fun c_195 => ?_) (fun c_195 => ?_)
      · refine e_iconst (nI 0) dX7_house_202 (by decide) ?_
        refine e_cv dX7_house_203 vX7_139 (m_X7_must hb g2.1 g2.2.1 hB t (P := s1 6 = nI 0) (jb_fN c_195).symm) (by decide) rfl rfl (Nat.le_of_ble_eq_true rfl) jBud0 rfl hO ?_
        rintro _ h1 ⟨rfl, t⟩
        replace t := t.cg (M_E (fun a e => (hl a e).2.2.2.2.1)) rfl
        clear hO F0 F1 F8 F9 hl hr hU E
        obtain ⟨s1, hO, ⟨F0, F1, F8, F9⟩, hl, hr, hU, E⟩ := id t
        refine e_al0 dX7_house_206 ?_
        refine e_iconst (nI 0) dX7_house_207 (by decide) ?_
        refine e_put dX7_house_208 fX7_91 hO (Nat.le_of_ble_eq_true rfl) (fun g => ⟨rfl, rfl⟩) ?_
        refine e_abs (fun h4 hh => ?_)
        replace hO : RO h4 (upd s1 1 (nI 0)) := jhs_at hh hO
        replace hU := jhs hh hU (by omega)
        replace E := jEq.hs hh E (Or.inl rfl)
        have hW2 := E.at (by omega) hW
        clear hh
        refine e_al0 dX7_house_211 ?_
        refine e_cv dX7_house_212 vX7_113 (m_X7_isWell0 hO) (by decide) rfl rfl (Nat.le_of_ble_eq_true rfl) jBud0 rfl hO ?_
        rintro _ _ ⟨rfl, rfl⟩
        refine e_if_neB 226 dX7_house_215 (by decide) (fun c_215 => ?_) (fun c_215 => ?_)
        · have wl := (s3_well (h0 := h) (h := h) g2.1 (fun a e => (hl a e).2.2.1) (fun q e => ⟨(hr q e).1, (hr q e).2.2⟩)).mp c_215
          obtain ⟨a4, eq⟩ := sT_l wl
          refine e_al0 dX7_house_226 ?_
          refine e_get dX7_house_227 fX7_28 hO rfl ?_
          refine e_iconst (nI 0) dX7_house_230 (by decide) ?_
          refine e_al0 dX7_house_231 ?_
          refine e_get dX7_house_232 fX7_25 hO rfl ?_
          refine e_iconst (nI 0) dX7_house_235 (by decide) ?_
          refine e_cs dX7_house_236 sX7_147 (m_X7_copies hU hW2 (by omega) (v1 := 0) (v2 := 0) (by omega) (by omega) (by omega) (by omega)) (by decide) rfl rfl (Nat.le_of_ble_eq_true rfl) jBud0 ?_
          rintro _ h1 ⟨rfl, w2, hh, hw2⟩
          replace hO := jhs hh hO (by omega)
          replace hU := jhs hh hU (by omega)
          replace hW2 := jhs_at hh hW2
          have EE := jEq.hs hh (E.mono (Q := fun j => j = 218 ∨ j = 224 ∨ j = 225) (fun j q => by omega)) (Or.inr (Or.inl rfl))
          clear hh
          refine e_norm (s_ps S.2.1.1 S.2.1.2.1).2 hW2 (fun k hk => by rw [hw2, if_pos (by omega), show 0 + (k - 0) = k by omega]) ?_
          refine e_abs (fun h3 hh => ?_)
          replace hO := jhs hh hO (by omega)
          replace hU := jhs hh hU (by omega)
          replace hW2 := jhs_at hh hW2
          replace EE := jEq.hs hh EE (Or.inr (Or.inl rfl))
          clear hh
          refine e_al0 dX7_house_239 ?_
          refine e_iconst (nI 0) dX7_house_240 (by decide) ?_
          refine e_put dX7_house_241 fX7_151 hO (Nat.le_of_ble_eq_true rfl) (fun g => ⟨rfl, rfl⟩) ?_
          refine e_abs (fun h4 hh => ?_)
          replace hO : RO h4 (upd (upd s1 1 (nI 0)) 8 (nI 0)) := jhs_at hh hO
          replace hU := jhs hh hU (by omega)
          replace hW2 := jhs hh hW2 (by omega)
          replace EE := jEq.hs hh EE (Or.inl rfl)
          clear hh
          refine e_al0 dX7_house_244 ?_
          refine e_get dX7_house_245 fX7_25 hO rfl ?_
          refine e_iconst (nI 2) dX7_house_248 (by decide) ?_
          refine e_ialdN dX7_house_249 hW2 (by omega) (by decide) ?_
          exact e_iret hX dX7_house_250 (by
            rw [sp_house_l eq]
            obtain ⟨hq0, hq2, -⟩ := hl a4 eq
            refine ⟨rfl, ⟨⟨_, hO, (upd_ne (by decide)).trans ((upd_ne (by decide)).trans (F0.trans s0)), (upd_ne (by decide)).trans upd_at, (upd_ne (by decide)).trans ((upd_ne (by decide)).trans (hq2.trans s2)), upd_at, (upd_ne (by decide)).trans ((upd_ne (by decide)).trans (F9.trans s9))⟩, rRows.eq EE c2 (fun j _ _ q => by omega), ⟨_, EE.at (by omega) hB, fun i hi => absurd hi (Nat.not_lt_zero i)⟩, hW2, ⟨Pa, EE.at (by omega) hP, fun j hj => absurd hj (Nat.not_lt_zero j)⟩, rImg.eq EE c6 (by omega) (by omega), ⟨⟨_, hU⟩, ⟨_, EE.at (by omega) hx2⟩, ⟨_, EE.at (by omega) hx3⟩, ⟨_, EE.at (by omega) hx4⟩, ⟨_, EE.at (by omega) hx5⟩, _, EE.at (by omega) hx6⟩, rTrace.eq EE c8 (by omega)⟩, EE.mono (fun j q => by unfold jHi; omega)⟩) (fun z => z)
        · have wl := fun z => c_215 ((s3_well (h0 := h) (h := h) g2.1 (fun a e => (hl a e).2.2.1) (fun q e => ⟨(hr q e).1, (hr q e).2.2⟩)).mpr z)
          obtain ⟨q, eq⟩ := sT_r wl
          refine e_ldc dX7_house_218 kX7_146 ?_
          refine e_al0 dX7_house_220 ?_
          refine e_get dX7_house_221 fX7_110 hO rfl ?_
          refine e_isub dX7_house_224 ?_
          exact e_iret hX dX7_house_225 (by
            rw [sp_house_r eq]
            obtain ⟨hq1, hq2, hq3⟩ := hr q eq
            have e3 : upd s1 1 (nI 0) 3 = nI q.2 := (upd_ne (by decide)).trans hq3
            have EE := E
            refine ⟨by rw [e3], ⟨⟨_, hO, (upd_ne (by decide)).trans (F0.trans s0), upd_at, (upd_ne (by decide)).trans hq2, (upd_ne (by decide)).trans (F8.trans s8), (upd_ne (by decide)).trans (F9.trans s9)⟩, rRows.eq EE c2 (fun j _ _ q => by omega), ⟨_, EE.at (by omega) hB, fun i hi => absurd hi (Nat.not_lt_zero i)⟩, EE.at (by omega) hW, rActs.eq EE c5 (by omega), rImg.eq EE c6 (by omega) (by omega), ⟨⟨_, hU⟩, ⟨_, EE.at (by omega) hx2⟩, ⟨_, EE.at (by omega) hx3⟩, ⟨_, EE.at (by omega) hx4⟩, ⟨_, EE.at (by omega) hx5⟩, _, EE.at (by omega) hx6⟩, rTrace.eq EE c8 (by omega)⟩, EE.mono (fun j q => by unfold jHi; omega)⟩) (fun z => z)
      · refine e_iconst (nI 1) dX7_house_198 (by decide) ?_
        refine e_goto 203 dX7_house_199 (by decide) ?_
        refine e_cv dX7_house_203 vX7_139 (m_X7_must hb g2.1 g2.2.1 hB t (P := s1 6 = nI 0) (jb_tN c_195).symm) (by decide) rfl rfl (Nat.le_of_ble_eq_true rfl) jBud0 rfl hO ?_
        rintro _ h1 ⟨rfl, t⟩
        replace t := t.cg (M_E (fun a e => (hl a e).2.2.2.2.1)) rfl
        clear hO F0 F1 F8 F9 hl hr hU E
        obtain ⟨s1, hO, ⟨F0, F1, F8, F9⟩, hl, hr, hU, E⟩ := id t
        refine e_al0 dX7_house_206 ?_
        refine e_iconst (nI 0) dX7_house_207 (by decide) ?_
        refine e_put dX7_house_208 fX7_91 hO (Nat.le_of_ble_eq_true rfl) (fun g => ⟨rfl, rfl⟩) ?_
        refine e_abs (fun h4 hh => ?_)
        replace hO : RO h4 (upd s1 1 (nI 0)) := jhs_at hh hO
        replace hU := jhs hh hU (by omega)
        replace E := jEq.hs hh E (Or.inl rfl)
        have hW2 := E.at (by omega) hW
        clear hh
        refine e_al0 dX7_house_211 ?_
        refine e_cv dX7_house_212 vX7_113 (m_X7_isWell0 hO) (by decide) rfl rfl (Nat.le_of_ble_eq_true rfl) jBud0 rfl hO ?_
        rintro _ _ ⟨rfl, rfl⟩
        refine e_if_neB 226 dX7_house_215 (by decide) (fun c_215 => ?_) (fun c_215 => ?_)
        · have wl := (s3_well (h0 := h) (h := h) g2.1 (fun a e => (hl a e).2.2.1) (fun q e => ⟨(hr q e).1, (hr q e).2.2⟩)).mp c_215
          obtain ⟨a4, eq⟩ := sT_l wl
          refine e_al0 dX7_house_226 ?_
          refine e_get dX7_house_227 fX7_28 hO rfl ?_
          refine e_iconst (nI 0) dX7_house_230 (by decide) ?_
          refine e_al0 dX7_house_231 ?_
          refine e_get dX7_house_232 fX7_25 hO rfl ?_
          refine e_iconst (nI 0) dX7_house_235 (by decide) ?_
          refine e_cs dX7_house_236 sX7_147 (m_X7_copies hU hW2 (by omega) (v1 := 0) (v2 := 0) (by omega) (by omega) (by omega) (by omega)) (by decide) rfl rfl (Nat.le_of_ble_eq_true rfl) jBud0 ?_
          rintro _ h1 ⟨rfl, w2, hh, hw2⟩
          replace hO := jhs hh hO (by omega)
          replace hU := jhs hh hU (by omega)
          replace hW2 := jhs_at hh hW2
          have EE := jEq.hs hh (E.mono (Q := fun j => j = 218 ∨ j = 224 ∨ j = 225) (fun j q => by omega)) (Or.inr (Or.inl rfl))
          clear hh
          refine e_norm (s_ps S.2.1.1 S.2.1.2.1).2 hW2 (fun k hk => by rw [hw2, if_pos (by omega), show 0 + (k - 0) = k by omega]) ?_
          refine e_abs (fun h3 hh => ?_)
          replace hO := jhs hh hO (by omega)
          replace hU := jhs hh hU (by omega)
          replace hW2 := jhs_at hh hW2
          replace EE := jEq.hs hh EE (Or.inr (Or.inl rfl))
          clear hh
          refine e_al0 dX7_house_239 ?_
          refine e_iconst (nI 0) dX7_house_240 (by decide) ?_
          refine e_put dX7_house_241 fX7_151 hO (Nat.le_of_ble_eq_true rfl) (fun g => ⟨rfl, rfl⟩) ?_
          refine e_abs (fun h4 hh => ?_)
          replace hO : RO h4 (upd (upd s1 1 (nI 0)) 8 (nI 0)) := jhs_at hh hO
          replace hU := jhs hh hU (by omega)
          replace hW2 := jhs hh hW2 (by omega)
          replace EE := jEq.hs hh EE (Or.inl rfl)
          clear hh
          refine e_al0 dX7_house_244 ?_
          refine e_get dX7_house_245 fX7_25 hO rfl ?_
          refine e_iconst (nI 2) dX7_house_248 (by decide) ?_
          refine e_ialdN dX7_house_249 hW2 (by omega) (by decide) ?_
          exact e_iret hX dX7_house_250 (by
            rw [sp_house_l eq]
            obtain ⟨hq0, hq2, -⟩ := hl a4 eq
            refine ⟨rfl, ⟨⟨_, hO, (upd_ne (by decide)).trans ((upd_ne (by decide)).trans (F0.trans s0)), (upd_ne (by decide)).trans upd_at, (upd_ne (by decide)).trans ((upd_ne (by decide)).trans (hq2.trans s2)), upd_at, (upd_ne (by decide)).trans ((upd_ne (by decide)).trans (F9.trans s9))⟩, rRows.eq EE c2 (fun j _ _ q => by omega), ⟨_, EE.at (by omega) hB, fun i hi => absurd hi (Nat.not_lt_zero i)⟩, hW2, ⟨Pa, EE.at (by omega) hP, fun j hj => absurd hj (Nat.not_lt_zero j)⟩, rImg.eq EE c6 (by omega) (by omega), ⟨⟨_, hU⟩, ⟨_, EE.at (by omega) hx2⟩, ⟨_, EE.at (by omega) hx3⟩, ⟨_, EE.at (by omega) hx4⟩, ⟨_, EE.at (by omega) hx5⟩, _, EE.at (by omega) hx6⟩, rTrace.eq EE c8 (by omega)⟩, EE.mono (fun j q => by unfold jHi; omega)⟩) (fun z => z)
        · have wl := fun z => c_215 ((s3_well (h0 := h) (h := h) g2.1 (fun a e => (hl a e).2.2.1) (fun q e => ⟨(hr q e).1, (hr q e).2.2⟩)).mpr z)
          obtain ⟨q, eq⟩ := sT_r wl
          refine e_ldc dX7_house_218 kX7_146 ?_
          refine e_al0 dX7_house_220 ?_
          refine e_get dX7_house_221 fX7_110 hO rfl ?_
          refine e_isub dX7_house_224 ?_
          exact e_iret hX dX7_house_225 (by
            rw [sp_house_r eq]
            obtain ⟨hq1, hq2, hq3⟩ := hr q eq
            have e3 : upd s1 1 (nI 0) 3 = nI q.2 := (upd_ne (by decide)).trans hq3
            have EE := E
            refine ⟨by rw [e3], ⟨⟨_, hO, (upd_ne (by decide)).trans (F0.trans s0), upd_at, (upd_ne (by decide)).trans hq2, (upd_ne (by decide)).trans (F8.trans s8), (upd_ne (by decide)).trans (F9.trans s9)⟩, rRows.eq EE c2 (fun j _ _ q => by omega), ⟨_, EE.at (by omega) hB, fun i hi => absurd hi (Nat.not_lt_zero i)⟩, EE.at (by omega) hW, rActs.eq EE c5 (by omega), rImg.eq EE c6 (by omega) (by omega), ⟨⟨_, hU⟩, ⟨_, EE.at (by omega) hx2⟩, ⟨_, EE.at (by omega) hx3⟩, ⟨_, EE.at (by omega) hx4⟩, ⟨_, EE.at (by omega) hx5⟩, _, EE.at (by omega) hx6⟩, rTrace.eq EE c8 (by omega)⟩, EE.mono (fun j q => by unfold jHi; omega)⟩) (fun z => z)
    · refine e_iconst (nI 1) dX7_house_150 (by decide) ?_
      refine e_goto 155 dX7_house_151 (by decide) ?_
      refine e_cv dX7_house_155 vX7_139 (m_X7_must hb g2.1 g2.2.1 hB t (P := 1 < (s_hs S.2.1.1 S.2.1.2.1).2 2) (jb_tN c_147).symm) (by decide) rfl rfl (Nat.le_of_ble_eq_true rfl) jBud0 rfl hO ?_
      rintro _ h1 ⟨rfl, t⟩
      refine lp_X7_houseP hb g2.1 g2.2.1 hB (R := s_ps S.2.1.1 S.2.1.2.1) (fun h t => ?_) 11 _ _ _ (by split <;> omega) hso.1.1.2.2.1 (fun z => s_M_P z) (by omega) (by rw [hso.2.1]; rfl) t
      obtain ⟨s1, hO, ⟨F0, F1, F8, F9⟩, hl, hr, hU, E⟩ := id t
      refine e_al0 dX7_house_190 ?_
      refine e_al0 dX7_house_191 ?_
      refine e_get dX7_house_192 fX7_107 hO rfl ?_
      refine e_if_ne 202 dX7_house_195 (by decide) (fun c_195 => ?_) (fun c_195 => ?_)
      · refine e_iconst (nI 0) dX7_house_202 (by decide) ?_
        refine e_cv dX7_house_203 vX7_139 (m_X7_must hb g2.1 g2.2.1 hB t (P := s1 6 = nI 0) (jb_fN c_195).symm) (by decide) rfl rfl (Nat.le_of_ble_eq_true rfl) jBud0 rfl hO ?_
        rintro _ h1 ⟨rfl, t⟩
        replace t := t.cg (M_E (fun a e => (hl a e).2.2.2.2.1)) rfl
        clear hO F0 F1 F8 F9 hl hr hU E
        obtain ⟨s1, hO, ⟨F0, F1, F8, F9⟩, hl, hr, hU, E⟩ := id t
        refine e_al0 dX7_house_206 ?_
        refine e_iconst (nI 0) dX7_house_207 (by decide) ?_
        refine e_put dX7_house_208 fX7_91 hO (Nat.le_of_ble_eq_true rfl) (fun g => ⟨rfl, rfl⟩) ?_
        refine e_abs (fun h4 hh => ?_)
        replace hO : RO h4 (upd s1 1 (nI 0)) := jhs_at hh hO
        replace hU := jhs hh hU (by omega)
        replace E := jEq.hs hh E (Or.inl rfl)
        have hW2 := E.at (by omega) hW
        clear hh
        refine e_al0 dX7_house_211 ?_
        refine e_cv dX7_house_212 vX7_113 (m_X7_isWell0 hO) (by decide) rfl rfl (Nat.le_of_ble_eq_true rfl) jBud0 rfl hO ?_
        rintro _ _ ⟨rfl, rfl⟩
        refine e_if_neB 226 dX7_house_215 (by decide) (fun c_215 => ?_) (fun c_215 => ?_)
        · have wl := (s3_well (h0 := h) (h := h) g2.1 (fun a e => (hl a e).2.2.1) (fun q e => ⟨(hr q e).1, (hr q e).2.2⟩)).mp c_215
          obtain ⟨a4, eq⟩ := sT_l wl
          refine e_al0 dX7_house_226 ?_
          refine e_get dX7_house_227 fX7_28 hO rfl ?_
          refine e_iconst (nI 0) dX7_house_230 (by decide) ?_
          refine e_al0 dX7_house_231 ?_
          refine e_get dX7_house_232 fX7_25 hO rfl ?_
          refine e_iconst (nI 0) dX7_house_235 (by decide) ?_
          refine e_cs dX7_house_236 sX7_147 (m_X7_copies hU hW2 (by omega) (v1 := 0) (v2 := 0) (by omega) (by omega) (by omega) (by omega)) (by decide) rfl rfl (Nat.le_of_ble_eq_true rfl) jBud0 ?_
          rintro _ h1 ⟨rfl, w2, hh, hw2⟩
          replace hO := jhs hh hO (by omega)
          replace hU := jhs hh hU (by omega)
          replace hW2 := jhs_at hh hW2
          have EE := jEq.hs hh (E.mono (Q := fun j => j = 218 ∨ j = 224 ∨ j = 225) (fun j q => by omega)) (Or.inr (Or.inl rfl))
          clear hh
          refine e_norm (s_ps S.2.1.1 S.2.1.2.1).2 hW2 (fun k hk => by rw [hw2, if_pos (by omega), show 0 + (k - 0) = k by omega]) ?_
          refine e_abs (fun h3 hh => ?_)
          replace hO := jhs hh hO (by omega)
          replace hU := jhs hh hU (by omega)
          replace hW2 := jhs_at hh hW2
          replace EE := jEq.hs hh EE (Or.inr (Or.inl rfl))
          clear hh
          refine e_al0 dX7_house_239 ?_
          refine e_iconst (nI 0) dX7_house_240 (by decide) ?_
          refine e_put dX7_house_241 fX7_151 hO (Nat.le_of_ble_eq_true rfl) (fun g => ⟨rfl, rfl⟩) ?_
          refine e_abs (fun h4 hh => ?_)
          replace hO : RO h4 (upd (upd s1 1 (nI 0)) 8 (nI 0)) := jhs_at hh hO
          replace hU := jhs hh hU (by omega)
          replace hW2 := jhs hh hW2 (by omega)
          replace EE := jEq.hs hh EE (Or.inl rfl)
          clear hh
          refine e_al0 dX7_house_244 ?_
          refine e_get dX7_house_245 fX7_25 hO rfl ?_
          refine e_iconst (nI 2) dX7_house_248 (by decide) ?_
          refine e_ialdN dX7_house_249 hW2 (by omega) (by decide) ?_
          exact e_iret hX dX7_house_250 (by
            rw [sp_house_l eq]
            obtain ⟨hq0, hq2, -⟩ := hl a4 eq
            refine ⟨rfl, ⟨⟨_, hO, (upd_ne (by decide)).trans ((upd_ne (by decide)).trans (F0.trans s0)), (upd_ne (by decide)).trans upd_at, (upd_ne (by decide)).trans ((upd_ne (by decide)).trans (hq2.trans s2)), upd_at, (upd_ne (by decide)).trans ((upd_ne (by decide)).trans (F9.trans s9))⟩, rRows.eq EE c2 (fun j _ _ q => by omega), ⟨_, EE.at (by omega) hB, fun i hi => absurd hi (Nat.not_lt_zero i)⟩, hW2, ⟨Pa, EE.at (by omega) hP, fun j hj => absurd hj (Nat.not_lt_zero j)⟩, rImg.eq EE c6 (by omega) (by omega), ⟨⟨_, hU⟩, ⟨_, EE.at (by omega) hx2⟩, ⟨_, EE.at (by omega) hx3⟩, ⟨_, EE.at (by omega) hx4⟩, ⟨_, EE.at (by omega) hx5⟩, _, EE.at (by omega) hx6⟩, rTrace.eq EE c8 (by omega)⟩, EE.mono (fun j q => by unfold jHi; omega)⟩) (fun z => z)
        · have wl := fun z => c_215 ((s3_well (h0 := h) (h := h) g2.1 (fun a e => (hl a e).2.2.1) (fun q e => ⟨(hr q e).1, (hr q e).2.2⟩)).mpr z)
          obtain ⟨q, eq⟩ := sT_r wl
          refine e_ldc dX7_house_218 kX7_146 ?_
          refine e_al0 dX7_house_220 ?_
          refine e_get dX7_house_221 fX7_110 hO rfl ?_
          refine e_isub dX7_house_224 ?_
          exact e_iret hX dX7_house_225 (by
            rw [sp_house_r eq]
            obtain ⟨hq1, hq2, hq3⟩ := hr q eq
            have e3 : upd s1 1 (nI 0) 3 = nI q.2 := (upd_ne (by decide)).trans hq3
            have EE := E
            refine ⟨by rw [e3], ⟨⟨_, hO, (upd_ne (by decide)).trans (F0.trans s0), upd_at, (upd_ne (by decide)).trans hq2, (upd_ne (by decide)).trans (F8.trans s8), (upd_ne (by decide)).trans (F9.trans s9)⟩, rRows.eq EE c2 (fun j _ _ q => by omega), ⟨_, EE.at (by omega) hB, fun i hi => absurd hi (Nat.not_lt_zero i)⟩, EE.at (by omega) hW, rActs.eq EE c5 (by omega), rImg.eq EE c6 (by omega) (by omega), ⟨⟨_, hU⟩, ⟨_, EE.at (by omega) hx2⟩, ⟨_, EE.at (by omega) hx3⟩, ⟨_, EE.at (by omega) hx4⟩, ⟨_, EE.at (by omega) hx5⟩, _, EE.at (by omega) hx6⟩, rTrace.eq EE c8 (by omega)⟩, EE.mono (fun j q => by unfold jHi; omega)⟩) (fun z => z)
      · refine e_iconst (nI 1) dX7_house_198 (by decide) ?_
        refine e_goto 203 dX7_house_199 (by decide) ?_
        refine e_cv dX7_house_203 vX7_139 (m_X7_must hb g2.1 g2.2.1 hB t (P := s1 6 = nI 0) (jb_tN c_195).symm) (by decide) rfl rfl (Nat.le_of_ble_eq_true rfl) jBud0 rfl hO ?_
        rintro _ h1 ⟨rfl, t⟩
        replace t := t.cg (M_E (fun a e => (hl a e).2.2.2.2.1)) rfl
        clear hO F0 F1 F8 F9 hl hr hU E
        obtain ⟨s1, hO, ⟨F0, F1, F8, F9⟩, hl, hr, hU, E⟩ := id t
        refine e_al0 dX7_house_206 ?_
        refine e_iconst (nI 0) dX7_house_207 (by decide) ?_
        refine e_put dX7_house_208 fX7_91 hO (Nat.le_of_ble_eq_true rfl) (fun g => ⟨rfl, rfl⟩) ?_
        refine e_abs (fun h4 hh => ?_)
        replace hO : RO h4 (upd s1 1 (nI 0)) := jhs_at hh hO
        replace hU := jhs hh hU (by omega)
        replace E := jEq.hs hh E (Or.inl rfl)
        have hW2 := E.at (by omega) hW
        clear hh
        refine e_al0 dX7_house_211 ?_
        refine e_cv dX7_house_212 vX7_113 (m_X7_isWell0 hO) (by decide) rfl rfl (Nat.le_of_ble_eq_true rfl) jBud0 rfl hO ?_
        rintro _ _ ⟨rfl, rfl⟩
        refine e_if_neB 226 dX7_house_215 (by decide) (fun c_215 => ?_) (fun c_215 => ?_)
        · have wl := (s3_well (h0 := h) (h := h) g2.1 (fun a e => (hl a e).2.2.1) (fun q e => ⟨(hr q e).1, (hr q e).2.2⟩)).mp c_215
          obtain ⟨a4, eq⟩ := sT_l wl
          refine e_al0 dX7_house_226 ?_
          refine e_get dX7_house_227 fX7_28 hO rfl ?_
          refine e_iconst (nI 0) dX7_house_230 (by decide) ?_
          refine e_al0 dX7_house_231 ?_
          refine e_get dX7_house_232 fX7_25 hO rfl ?_
          refine e_iconst (nI 0) dX7_house_235 (by decide) ?_
          refine e_cs dX7_house_236 sX7_147 (m_X7_copies hU hW2 (by omega) (v1 := 0) (v2 := 0) (by omega) (by omega) (by omega) (by omega)) (by decide) rfl rfl (Nat.le_of_ble_eq_true rfl) jBud0 ?_
          rintro _ h1 ⟨rfl, w2, hh, hw2⟩
          replace hO := jhs hh hO (by omega)
          replace hU := jhs hh hU (by omega)
          replace hW2 := jhs_at hh hW2
          have EE := jEq.hs hh (E.mono (Q := fun j => j = 218 ∨ j = 224 ∨ j = 225) (fun j q => by omega)) (Or.inr (Or.inl rfl))
          clear hh
          refine e_norm (s_ps S.2.1.1 S.2.1.2.1).2 hW2 (fun k hk => by rw [hw2, if_pos (by omega), show 0 + (k - 0) = k by omega]) ?_
          refine e_abs (fun h3 hh => ?_)
          replace hO := jhs hh hO (by omega)
          replace hU := jhs hh hU (by omega)
          replace hW2 := jhs_at hh hW2
          replace EE := jEq.hs hh EE (Or.inr (Or.inl rfl))
          clear hh
          refine e_al0 dX7_house_239 ?_
          refine e_iconst (nI 0) dX7_house_240 (by decide) ?_
          refine e_put dX7_house_241 fX7_151 hO (Nat.le_of_ble_eq_true rfl) (fun g => ⟨rfl, rfl⟩) ?_
          refine e_abs (fun h4 hh => ?_)
          replace hO : RO h4 (upd (upd s1 1 (nI 0)) 8 (nI 0)) := jhs_at hh hO
          replace hU := jhs hh hU (by omega)
          replace hW2 := jhs hh hW2 (by omega)
          replace EE := jEq.hs hh EE (Or.inl rfl)
          clear hh
          refine e_al0 dX7_house_244 ?_
          refine e_get dX7_house_245 fX7_25 hO rfl ?_
          refine e_iconst (nI 2) dX7_house_248 (by decide) ?_
          refine e_ialdN dX7_house_249 hW2 (by omega) (by decide) ?_
          exact e_iret hX dX7_house_250 (by
            rw [sp_house_l eq]
            obtain ⟨hq0, hq2, -⟩ := hl a4 eq
            refine ⟨rfl, ⟨⟨_, hO, (upd_ne (by decide)).trans ((upd_ne (by decide)).trans (F0.trans s0)), (upd_ne (by decide)).trans upd_at, (upd_ne (by decide)).trans ((upd_ne (by decide)).trans (hq2.trans s2)), upd_at, (upd_ne (by decide)).trans ((upd_ne (by decide)).trans (F9.trans s9))⟩, rRows.eq EE c2 (fun j _ _ q => by omega), ⟨_, EE.at (by omega) hB, fun i hi => absurd hi (Nat.not_lt_zero i)⟩, hW2, ⟨Pa, EE.at (by omega) hP, fun j hj => absurd hj (Nat.not_lt_zero j)⟩, rImg.eq EE c6 (by omega) (by omega), ⟨⟨_, hU⟩, ⟨_, EE.at (by omega) hx2⟩, ⟨_, EE.at (by omega) hx3⟩, ⟨_, EE.at (by omega) hx4⟩, ⟨_, EE.at (by omega) hx5⟩, _, EE.at (by omega) hx6⟩, rTrace.eq EE c8 (by omega)⟩, EE.mono (fun j q => by unfold jHi; omega)⟩) (fun z => z)
        · have wl := fun z => c_215 ((s3_well (h0 := h) (h := h) g2.1 (fun a e => (hl a e).2.2.1) (fun q e => ⟨(hr q e).1, (hr q e).2.2⟩)).mpr z)
          obtain ⟨q, eq⟩ := sT_r wl
          refine e_ldc dX7_house_218 kX7_146 ?_
          refine e_al0 dX7_house_220 ?_
          refine e_get dX7_house_221 fX7_110 hO rfl ?_
          refine e_isub dX7_house_224 ?_
          exact e_iret hX dX7_house_225 (by
            rw [sp_house_r eq]
            obtain ⟨hq1, hq2, hq3⟩ := hr q eq
            have e3 : upd s1 1 (nI 0) 3 = nI q.2 := (upd_ne (by decide)).trans hq3
            have EE := E
            refine ⟨by rw [e3], ⟨⟨_, hO, (upd_ne (by decide)).trans (F0.trans s0), upd_at, (upd_ne (by decide)).trans hq2, (upd_ne (by decide)).trans (F8.trans s8), (upd_ne (by decide)).trans (F9.trans s9)⟩, rRows.eq EE c2 (fun j _ _ q => by omega), ⟨_, EE.at (by omega) hB, fun i hi => absurd hi (Nat.not_lt_zero i)⟩, EE.at (by omega) hW, rActs.eq EE c5 (by omega), rImg.eq EE c6 (by omega) (by omega), ⟨⟨_, hU⟩, ⟨_, EE.at (by omega) hx2⟩, ⟨_, EE.at (by omega) hx3⟩, ⟨_, EE.at (by omega) hx4⟩, ⟨_, EE.at (by omega) hx5⟩, _, EE.at (by omega) hx6⟩, rTrace.eq EE c8 (by omega)⟩, EE.mono (fun j q => by unfold jHi; omega)⟩) (fun z => z)
  obtain ⟨ha, F2, F3, F5, F6, F74⟩ := hl 0 rfl
  have t5 := tk_le S.2.1.1 S.2.1.2.1 0
  refine e_al0 dX7_house_35 ?_
  refine e_al0 dX7_house_36 ?_
  refine e_get dX7_house_37 fX7_107 hO rfl ?_
  rw [F6]
  refine e_iconst (nI 1) dX7_house_40 (by decide) ?_
  refine e_ic_neN 57 dX7_house_41 (by decide) (by omega) (by omega) (fun c_41 => ?_) (fun c_41 => ?_)
  · refine e_iconst (nI 0) dX7_house_57 (by decide) ?_
    refine e_iconst (nI 1) dX7_house_58 (by decide) ?_
    refine e_cv dX7_house_59 vX7_123 (m_X7_takes hb g2.1 g2.2.1 hB t (P := b_is S.2.1.1 S.2.1.2.1 104 0) (fun _ _ => (jb_fN (fun z => c_41 (tk_l.mpr ⟨z.1, by have := z.2; omega, by have := z.2; omega⟩))).symm) (fun b e z => by cases e; have := (tk_l (n := S.2.1.1) (T := S.2.1.2.1) (a := 0)).mpr ⟨z.1, by have := z.2; omega, by have := z.2; omega⟩; omega)) (by decide) rfl rfl (Nat.le_of_ble_eq_true rfl) jBud0 rfl hO ?_
    rintro _ h1 ⟨rfl, t⟩
    replace t := t.cg (show _ = s_B S.2.1.1 S.2.1.2.1 104 (.inl 0) by
      by_cases z : b_is S.2.1.1 S.2.1.2.1 104 0
      · rw [s_K, if_pos z, s_B_t z, nx_b (fun y => by have := y.2; have := z.2; omega) z.1]
      · rw [s_K, if_neg z, s_B_f z]) rfl
    clear hO F0 F1 F8 F9 hl hr hU E
    obtain ⟨s1, hO, ⟨F0, F1, F8, F9⟩, hl, hr, hU, E⟩ := id t
    refine e_pop dX7_house_62 rfl ?_
    refine e_al0 dX7_house_63 ?_
    refine e_get dX7_house_64 fX7_28 hO rfl ?_
    refine e_iconst (nI 0) dX7_house_67 (by decide) ?_
    refine e_al0 dX7_house_68 ?_
    refine e_iconst (nI 0) dX7_house_69 (by decide) ?_
    refine e_bipush (nI 15) dX7_house_70 (by decide) ?_
    refine e_cv dX7_house_72 vX7_127 (m_X7_figure hb g2.1 g2.2.1 hB t (by omega) (by omega)) (by decide) rfl rfl (Nat.le_of_ble_eq_true rfl) jBud0 rfl hO ?_
    rintro _ h1 ⟨rfl, t⟩
    clear hO F0 F1 F8 F9 hl hr hU E
    obtain ⟨s1, hO, ⟨F0, F1, F8, F9⟩, hl, hr, hU, E⟩ := id t
    refine e_iastN dX7_house_75 hU (by omega) (by decide) ?_
    refine e_abs (fun h2 hh => ?_)
    replace t := t.hs hh
    clear hh hO F0 F1 F8 F9 hl hr hU E
    obtain ⟨s1, hO, ⟨F0, F1, F8, F9⟩, hl, hr, hU, E⟩ := id t
    refine e_al0 dX7_house_76 ?_
    refine e_get dX7_house_77 fX7_28 hO rfl ?_
    refine e_iconst (nI 1) dX7_house_80 (by decide) ?_
    refine e_al0 dX7_house_81 ?_
    refine e_iconst (nI 1) dX7_house_82 (by decide) ?_
    refine e_bipush (nI 9) dX7_house_83 (by decide) ?_
    refine e_cv dX7_house_85 vX7_133 (m_X7_follows hb g2.1 g2.2.1 hB t (by omega) (by omega)) (by decide) rfl rfl (Nat.le_of_ble_eq_true rfl) jBud0 rfl hO ?_
    rintro _ h1 ⟨rfl, t⟩
    clear hO F0 F1 F8 F9 hl hr hU E
    obtain ⟨s1, hO, ⟨F0, F1, F8, F9⟩, hl, hr, hU, E⟩ := id t
    refine e_iastN dX7_house_88 hU (by omega) (by decide) ?_
    refine e_abs (fun h2 hh => ?_)
    replace t := t.hs hh
    clear hh hO F0 F1 F8 F9 hl hr hU E
    obtain ⟨s1, hO, ⟨F0, F1, F8, F9⟩, hl, hr, hU, E⟩ := id t
    refine e_al0 dX7_house_89 ?_
    refine e_al0 dX7_house_90 ?_
    refine e_get dX7_house_91 fX7_107 hO rfl ?_
    refine e_iconst (nI 4) dX7_house_94 (by decide) ?_
    refine e_ic_ne 102 dX7_house_95 (by decide) (fun c_95 => ?_) (fun c_95 => ?_)
    · refine e_iconst (nI 0) dX7_house_102 (by decide) ?_
      refine e_iconst (nI 1) dX7_house_103 (by decide) ?_
      refine e_cv dX7_house_104 vX7_123 (m_X7_stop hb g2.1 g2.2.1 hB t (s1 := s1) (fun a e => (hl a e).2.2.2.2.1) (jb_fN c_95).symm) (by decide) rfl rfl (Nat.le_of_ble_eq_true rfl) jBud0 rfl hO ?_
      rintro _ h1 ⟨t, y, rfl⟩
      refine e_pop dX7_house_107 rfl ?_
      exact KH _ t
    · refine e_iconst (nI 1) dX7_house_98 (by decide) ?_
      refine e_goto 103 dX7_house_99 (by decide) ?_
      refine e_iconst (nI 1) dX7_house_103 (by decide) ?_
      refine e_cv dX7_house_104 vX7_123 (m_X7_stop hb g2.1 g2.2.1 hB t (s1 := s1) (fun a e => (hl a e).2.2.2.2.1) (jb_tN c_95).symm) (by decide) rfl rfl (Nat.le_of_ble_eq_true rfl) jBud0 rfl hO ?_
      rintro _ h1 ⟨t, y, rfl⟩
      refine e_pop dX7_house_107 rfl ?_
      exact KH _ t
  · refine e_al0 dX7_house_44 ?_
    refine e_get dX7_house_45 fX7_104 hO rfl ?_
    rw [(F74 (by omega)).1, vl_b (fun y => by have := y.2; have := (tk_l.mp c_41).2; omega) (tk_l.mp c_41).1]
    have ta := g2.2.1 0 (tk_l.mp c_41).1
    refine e_bipush (nI 104) dX7_house_48 (by decide) ?_
    refine e_ic_neN 57 dX7_house_50 (by decide) (by omega) (by omega) (fun c_50 => ?_) (fun c_50 => ?_)
    · refine e_iconst (nI 0) dX7_house_57 (by decide) ?_
      refine e_iconst (nI 1) dX7_house_58 (by decide) ?_
      refine e_cv dX7_house_59 vX7_123 (m_X7_takes hb g2.1 g2.2.1 hB t (P := b_is S.2.1.1 S.2.1.2.1 104 0) (fun _ _ => (jb_fN (fun z => c_50 z.2)).symm) (fun b e z => by cases e; have := (tk_l (n := S.2.1.1) (T := S.2.1.2.1) (a := 0)).mpr ⟨z.1, by have := z.2; omega, by have := z.2; omega⟩; omega)) (by decide) rfl rfl (Nat.le_of_ble_eq_true rfl) jBud0 rfl hO ?_
      rintro _ h1 ⟨rfl, t⟩
      replace t := t.cg (show _ = s_B S.2.1.1 S.2.1.2.1 104 (.inl 0) by
        by_cases z : b_is S.2.1.1 S.2.1.2.1 104 0
        · rw [s_K, if_pos z, s_B_t z, nx_b (fun y => by have := y.2; have := z.2; omega) z.1]
        · rw [s_K, if_neg z, s_B_f z]) rfl
      clear hO F0 F1 F8 F9 hl hr hU E
      obtain ⟨s1, hO, ⟨F0, F1, F8, F9⟩, hl, hr, hU, E⟩ := id t
      refine e_pop dX7_house_62 rfl ?_
      refine e_al0 dX7_house_63 ?_
      refine e_get dX7_house_64 fX7_28 hO rfl ?_
      refine e_iconst (nI 0) dX7_house_67 (by decide) ?_
      refine e_al0 dX7_house_68 ?_
      refine e_iconst (nI 0) dX7_house_69 (by decide) ?_
      refine e_bipush (nI 15) dX7_house_70 (by decide) ?_
      refine e_cv dX7_house_72 vX7_127 (m_X7_figure hb g2.1 g2.2.1 hB t (by omega) (by omega)) (by decide) rfl rfl (Nat.le_of_ble_eq_true rfl) jBud0 rfl hO ?_
      rintro _ h1 ⟨rfl, t⟩
      clear hO F0 F1 F8 F9 hl hr hU E
      obtain ⟨s1, hO, ⟨F0, F1, F8, F9⟩, hl, hr, hU, E⟩ := id t
      refine e_iastN dX7_house_75 hU (by omega) (by decide) ?_
      refine e_abs (fun h2 hh => ?_)
      replace t := t.hs hh
      clear hh hO F0 F1 F8 F9 hl hr hU E
      obtain ⟨s1, hO, ⟨F0, F1, F8, F9⟩, hl, hr, hU, E⟩ := id t
      refine e_al0 dX7_house_76 ?_
      refine e_get dX7_house_77 fX7_28 hO rfl ?_
      refine e_iconst (nI 1) dX7_house_80 (by decide) ?_
      refine e_al0 dX7_house_81 ?_
      refine e_iconst (nI 1) dX7_house_82 (by decide) ?_
      refine e_bipush (nI 9) dX7_house_83 (by decide) ?_
      refine e_cv dX7_house_85 vX7_133 (m_X7_follows hb g2.1 g2.2.1 hB t (by omega) (by omega)) (by decide) rfl rfl (Nat.le_of_ble_eq_true rfl) jBud0 rfl hO ?_
      rintro _ h1 ⟨rfl, t⟩
      clear hO F0 F1 F8 F9 hl hr hU E
      obtain ⟨s1, hO, ⟨F0, F1, F8, F9⟩, hl, hr, hU, E⟩ := id t
      refine e_iastN dX7_house_88 hU (by omega) (by decide) ?_
      refine e_abs (fun h2 hh => ?_)
      replace t := t.hs hh
      clear hh hO F0 F1 F8 F9 hl hr hU E
      obtain ⟨s1, hO, ⟨F0, F1, F8, F9⟩, hl, hr, hU, E⟩ := id t
      refine e_al0 dX7_house_89 ?_
      refine e_al0 dX7_house_90 ?_
      refine e_get dX7_house_91 fX7_107 hO rfl ?_
      refine e_iconst (nI 4) dX7_house_94 (by decide) ?_
      refine e_ic_ne 102 dX7_house_95 (by decide) (fun c_95 => ?_) (fun c_95 => ?_)
      · refine e_iconst (nI 0) dX7_house_102 (by decide) ?_
        refine e_iconst (nI 1) dX7_house_103 (by decide) ?_
        refine e_cv dX7_house_104 vX7_123 (m_X7_stop hb g2.1 g2.2.1 hB t (s1 := s1) (fun a e => (hl a e).2.2.2.2.1) (jb_fN c_95).symm) (by decide) rfl rfl (Nat.le_of_ble_eq_true rfl) jBud0 rfl hO ?_
        rintro _ h1 ⟨t, y, rfl⟩
        refine e_pop dX7_house_107 rfl ?_
        exact KH _ t
      · refine e_iconst (nI 1) dX7_house_98 (by decide) ?_
        refine e_goto 103 dX7_house_99 (by decide) ?_
        refine e_iconst (nI 1) dX7_house_103 (by decide) ?_
        refine e_cv dX7_house_104 vX7_123 (m_X7_stop hb g2.1 g2.2.1 hB t (s1 := s1) (fun a e => (hl a e).2.2.2.2.1) (jb_tN c_95).symm) (by decide) rfl rfl (Nat.le_of_ble_eq_true rfl) jBud0 rfl hO ?_
        rintro _ h1 ⟨t, y, rfl⟩
        refine e_pop dX7_house_107 rfl ?_
        exact KH _ t
    · refine e_iconst (nI 1) dX7_house_53 (by decide) ?_
      refine e_goto 58 dX7_house_54 (by decide) ?_
      refine e_iconst (nI 1) dX7_house_58 (by decide) ?_
      refine e_cv dX7_house_59 vX7_123 (m_X7_takes hb g2.1 g2.2.1 hB t (P := b_is S.2.1.1 S.2.1.2.1 104 0) (fun _ _ => (jb_tN ⟨(tk_l.mp c_41).1, c_50⟩).symm) (fun b e z => by cases e; have := (tk_l (n := S.2.1.1) (T := S.2.1.2.1) (a := 0)).mpr ⟨z.1, by have := z.2; omega, by have := z.2; omega⟩; omega)) (by decide) rfl rfl (Nat.le_of_ble_eq_true rfl) jBud0 rfl hO ?_
      rintro _ h1 ⟨rfl, t⟩
      replace t := t.cg (show _ = s_B S.2.1.1 S.2.1.2.1 104 (.inl 0) by
        by_cases z : b_is S.2.1.1 S.2.1.2.1 104 0
        · rw [s_K, if_pos z, s_B_t z, nx_b (fun y => by have := y.2; have := z.2; omega) z.1]
        · rw [s_K, if_neg z, s_B_f z]) rfl
      clear hO F0 F1 F8 F9 hl hr hU E
      obtain ⟨s1, hO, ⟨F0, F1, F8, F9⟩, hl, hr, hU, E⟩ := id t
      refine e_pop dX7_house_62 rfl ?_
      refine e_al0 dX7_house_63 ?_
      refine e_get dX7_house_64 fX7_28 hO rfl ?_
      refine e_iconst (nI 0) dX7_house_67 (by decide) ?_
      refine e_al0 dX7_house_68 ?_
      refine e_iconst (nI 0) dX7_house_69 (by decide) ?_
      refine e_bipush (nI 15) dX7_house_70 (by decide) ?_
      refine e_cv dX7_house_72 vX7_127 (m_X7_figure hb g2.1 g2.2.1 hB t (by omega) (by omega)) (by decide) rfl rfl (Nat.le_of_ble_eq_true rfl) jBud0 rfl hO ?_
      rintro _ h1 ⟨rfl, t⟩
      clear hO F0 F1 F8 F9 hl hr hU E
      obtain ⟨s1, hO, ⟨F0, F1, F8, F9⟩, hl, hr, hU, E⟩ := id t
      refine e_iastN dX7_house_75 hU (by omega) (by decide) ?_
      refine e_abs (fun h2 hh => ?_)
      replace t := t.hs hh
      clear hh hO F0 F1 F8 F9 hl hr hU E
      obtain ⟨s1, hO, ⟨F0, F1, F8, F9⟩, hl, hr, hU, E⟩ := id t
      refine e_al0 dX7_house_76 ?_
      refine e_get dX7_house_77 fX7_28 hO rfl ?_
      refine e_iconst (nI 1) dX7_house_80 (by decide) ?_
      refine e_al0 dX7_house_81 ?_
      refine e_iconst (nI 1) dX7_house_82 (by decide) ?_
      refine e_bipush (nI 9) dX7_house_83 (by decide) ?_
      refine e_cv dX7_house_85 vX7_133 (m_X7_follows hb g2.1 g2.2.1 hB t (by omega) (by omega)) (by decide) rfl rfl (Nat.le_of_ble_eq_true rfl) jBud0 rfl hO ?_
      rintro _ h1 ⟨rfl, t⟩
      clear hO F0 F1 F8 F9 hl hr hU E
      obtain ⟨s1, hO, ⟨F0, F1, F8, F9⟩, hl, hr, hU, E⟩ := id t
      refine e_iastN dX7_house_88 hU (by omega) (by decide) ?_
      refine e_abs (fun h2 hh => ?_)
      replace t := t.hs hh
      clear hh hO F0 F1 F8 F9 hl hr hU E
      obtain ⟨s1, hO, ⟨F0, F1, F8, F9⟩, hl, hr, hU, E⟩ := id t
      refine e_al0 dX7_house_89 ?_
      refine e_al0 dX7_house_90 ?_
      refine e_get dX7_house_91 fX7_107 hO rfl ?_
      refine e_iconst (nI 4) dX7_house_94 (by decide) ?_
      refine e_ic_ne 102 dX7_house_95 (by decide) (fun c_95 => ?_) (fun c_95 => ?_)
      · refine e_iconst (nI 0) dX7_house_102 (by decide) ?_
        refine e_iconst (nI 1) dX7_house_103 (by decide) ?_
        refine e_cv dX7_house_104 vX7_123 (m_X7_stop hb g2.1 g2.2.1 hB t (s1 := s1) (fun a e => (hl a e).2.2.2.2.1) (jb_fN c_95).symm) (by decide) rfl rfl (Nat.le_of_ble_eq_true rfl) jBud0 rfl hO ?_
        rintro _ h1 ⟨t, y, rfl⟩
        refine e_pop dX7_house_107 rfl ?_
        exact KH _ t
      · refine e_iconst (nI 1) dX7_house_98 (by decide) ?_
        refine e_goto 103 dX7_house_99 (by decide) ?_
        refine e_iconst (nI 1) dX7_house_103 (by decide) ?_
        refine e_cv dX7_house_104 vX7_123 (m_X7_stop hb g2.1 g2.2.1 hB t (s1 := s1) (fun a e => (hl a e).2.2.2.2.1) (jb_tN c_95).symm) (by decide) rfl rfl (Nat.le_of_ble_eq_true rfl) jBud0 rfl hO ?_
        rintro _ h1 ⟨t, y, rfl⟩
        refine e_pop dX7_house_107 rfl ?_
        exact KH _ t
