set_option maxRecDepth 100000 in
set_option maxHeartbeats 4000000 in
theorem lp_X7_copy2 {h0 : jH} {S : jS} (c : RI h0 S) (g : SG S) {s : Nat → Int32} (hs : s 1 = nI S.2.1.1 ∧ s 2 = nI S.2.1.2.2 ∧ s 8 = nI S.2.2.2.1.1 ∧ s 9 = nI S.2.2.2.2.2.1) {L I : Nat → Int32} {N : Nat → Nat} (dL : ∀ r, r < 8 → L r = rLane (S.1.2.1 r)) (dN : ∀ r, r < 8 → N r = S.1.2.2.1 r) (dI : ∀ r, r < 8 → ∀ i, i < S.1.2.2.1 r → I (40 * r + i) = S.1.2.2.2 r i) {a b i j m : Nat} (ha : a < 8) (hb : b < 8) (hi : i + m ≤ S.1.2.2.1 a) (hj : j + m ≤ S.1.2.2.1 b) (hsp : sp_copy (nI a) (nI i) (nI b) (nI j) (nI m) S = (nI m, ((0, S.1.2.1, S.1.2.2.1, fun q k => if q = b ∧ j ≤ k ∧ k < j + m then S.1.2.2.2 a (i + (k - j)) else S.1.2.2.2 q k), S.2))) {X : jX} (hX : jRet X (some .int) none (rAns h0 (sp_copy (nI a) (nI i) (nI b) (nI j) (nI m) S))) {Sp : Nat → Int32} (hSp : ∀ q, q < m → Sp q = I (40 * a + i + q)) : ∀ (n k : Nat) (h : jH) (I' : Nat → Int32), m - k < n → k ≤ m → RO h s → h[219]? = some (jI 8 L) → h[220]? = some (jN 8 N) → h[221]? = some (jI 320 I') → h[222]? = some (jI 40 Sp) → (∀ q, I' q = if 40 * b + j ≤ q ∧ q < 40 * b + j + k then I (40 * a + i + (q - (40 * b + j))) else I q) → jEq h0 h (fun j => 218 ≤ j ∧ j < 223) → jV cX7_copy RX7 2 X none 129 [some (.ref 218), some (.int (nI a)), some (.int (nI i)), some (.int (nI b)), some (.int (nI j)), some (.int (nI m)), some (.int (nI k))] [] h := by
  obtain ⟨g0, g1, -⟩ := id g
  have g1a := g1 a ha
  have g1b := g1 b hb
  intro n
  induction n with
  | zero => intros; omega
  | succ n ih =>
    intro k h I' hm hi2 hO d1 d2 d3 d4 hI E
    refine e_il6 dX7_copy_129 ?_
    refine e_il5 dX7_copy_131 ?_
    refine e_ic_geN 164 dX7_copy_133 (by decide) (by omega) (by omega) (fun c_133 => ?_) (fun c_133 => ?_)
    · refine e_al0 dX7_copy_164 ?_
      refine e_il5 dX7_copy_165 ?_
      refine e_cv dX7_copy_167 vX7_78 (m_X7_well hO) (by decide) rfl rfl (Nat.le_of_ble_eq_true rfl) jBud0 rfl hO ?_
      rintro _ h2 ⟨rfl, t2, E2⟩
      exact e_iret hX dX7_copy_170 (by
        rw [hsp]
        refine ⟨rfl, c.rows hs t2 ⟨_, _, _, _, E2.at (by omega) d1, E2.at (by omega) d2, E2.at (by omega) d3, E2.at (by omega) d4, dL, dN, fun q hq u hu => ?_⟩ (E.tr E2 (fun j q => by omega) (fun j q => by omega)), E.tr E2 (fun j q => by unfold jHi; omega) (fun j q => by unfold jHi; omega)⟩
        dsimp only
        rw [hI]
        have g1q := g1 q hq
        by_cases e : q = b ∧ j ≤ u ∧ u < j + m
        · rw [if_pos e, if_pos (by omega), ← dI a ha _ (by omega)]
          congr 1
          omega
        · rw [if_neg e, if_neg (by omega)]; exact dI q hq u hu) (fun z => z)
    · refine e_al0 dX7_copy_136 ?_
      refine e_get dX7_copy_137 fX7_16 hO rfl ?_
      refine e_bipush (nI 40) dX7_copy_140 (by decide) ?_
      refine e_il3 dX7_copy_142 ?_
      refine e_imulN dX7_copy_143 ?_
      refine e_il4 dX7_copy_144 ?_
      refine e_iaddN dX7_copy_146 ?_
      refine e_il6 dX7_copy_147 ?_
      refine e_iaddN dX7_copy_149 ?_
      refine e_al0 dX7_copy_150 ?_
      refine e_get dX7_copy_151 fX7_19 hO rfl ?_
      refine e_il6 dX7_copy_154 ?_
      refine e_ialdI dX7_copy_156 d4 (by omega) (by decide) ?_
      rw [hSp k (by omega)]
      refine e_iastI dX7_copy_157 d3 (by omega) (by decide) ?_
      refine e_abs (fun h1 hh => ?_)
      replace hO := jhs hh hO (by omega)
      replace d1 := jhs hh d1 (by omega)
      replace d2 := jhs hh d2 (by omega)
      replace d3 := jhs_at hh d3
      replace d4 := jhs hh d4 (by omega)
      replace E := jEq.hs hh E ⟨by omega, by omega⟩
      clear hh
      refine e_inc6N dX7_copy_158 rfl ?_
      refine e_goto 129 dX7_copy_161 (by decide) ?_
      refine ih (k + 1) _ _ (by omega) (by omega) hO d1 d2 d3 d4 (fun q => ?_) E
      unfold upd
      by_cases e : q = 40 * b + j + k
      · rw [if_pos e, if_pos (by omega)]; congr 1; omega
      · rw [if_neg e, hI q]
        by_cases e2 : 40 * b + j ≤ q ∧ q < 40 * b + j + k
        · rw [if_pos e2, if_pos (by omega)]
        · rw [if_neg e2, if_neg (by omega)]
set_option maxRecDepth 100000 in
set_option maxHeartbeats 4000000 in
theorem lp_X7_copy1 {h0 : jH} {S : jS} (c : RI h0 S) (g : SG S) {s : Nat → Int32} (hs : s 1 = nI S.2.1.1 ∧ s 2 = nI S.2.1.2.2 ∧ s 8 = nI S.2.2.2.1.1 ∧ s 9 = nI S.2.2.2.2.2.1) {L I : Nat → Int32} {N : Nat → Nat} (dL : ∀ r, r < 8 → L r = rLane (S.1.2.1 r)) (dN : ∀ r, r < 8 → N r = S.1.2.2.1 r) (dI : ∀ r, r < 8 → ∀ i, i < S.1.2.2.1 r → I (40 * r + i) = S.1.2.2.2 r i) {a b i j m : Nat} (ha : a < 8) (hb : b < 8) (hi : i + m ≤ S.1.2.2.1 a) (hj : j + m ≤ S.1.2.2.1 b) (hsp : sp_copy (nI a) (nI i) (nI b) (nI j) (nI m) S = (nI m, ((0, S.1.2.1, S.1.2.2.1, fun q k => if q = b ∧ j ≤ k ∧ k < j + m then S.1.2.2.2 a (i + (k - j)) else S.1.2.2.2 q k), S.2))) {X : jX} (hX : jRet X (some .int) none (rAns h0 (sp_copy (nI a) (nI i) (nI b) (nI j) (nI m) S))) : ∀ (n k : Nat) (h : jH) (Sp : Nat → Int32), m - k < n → k ≤ m → RO h s → h[219]? = some (jI 8 L) → h[220]? = some (jN 8 N) → h[221]? = some (jI 320 I) → h[222]? = some (jI 40 Sp) → (∀ q, q < k → Sp q = I (40 * a + i + q)) → jEq h0 h (fun j => 218 ≤ j ∧ j < 223) → jV cX7_copy RX7 2 X none 92 [some (.ref 218), some (.int (nI a)), some (.int (nI i)), some (.int (nI b)), some (.int (nI j)), some (.int (nI m)), some (.int (nI k))] [] h := by
  obtain ⟨g0, g1, -⟩ := id g
  have g1a := g1 a ha
  have g1b := g1 b hb
  intro n
  induction n with
  | zero => intros; omega
  | succ n ih =>
    intro k h Sp hm hi2 hO d1 d2 d3 d4 hSp E
    refine e_il6 dX7_copy_92 ?_
    refine e_il5 dX7_copy_94 ?_
    refine e_ic_geN 126 dX7_copy_96 (by decide) (by omega) (by omega) (fun c_96 => ?_) (fun c_96 => ?_)
    · refine e_iconst (nI 0) dX7_copy_126 (by decide) ?_
      refine e_is6 dX7_copy_127 rfl ?_
      exact lp_X7_copy2 c g hs dL dN dI ha hb hi hj hsp hX (fun q hq => hSp q (by omega)) (m + 1) 0 _ I (by omega) (by omega) hO d1 d2 d3 d4 (fun q => by rw [if_neg (by omega)]) E
    · refine e_al0 dX7_copy_99 ?_
      refine e_get dX7_copy_100 fX7_19 hO rfl ?_
      refine e_il6 dX7_copy_103 ?_
      refine e_al0 dX7_copy_105 ?_
      refine e_get dX7_copy_106 fX7_16 hO rfl ?_
      refine e_bipush (nI 40) dX7_copy_109 (by decide) ?_
      refine e_il1 dX7_copy_111 ?_
      refine e_imulN dX7_copy_112 ?_
      refine e_il2 dX7_copy_113 ?_
      refine e_iaddN dX7_copy_114 ?_
      refine e_il6 dX7_copy_115 ?_
      refine e_iaddN dX7_copy_117 ?_
      refine e_ialdI dX7_copy_118 d3 (by omega) (by decide) ?_
      refine e_iastI dX7_copy_119 d4 (by omega) (by decide) ?_
      refine e_abs (fun h1 hh => ?_)
      replace hO := jhs hh hO (by omega)
      replace d1 := jhs hh d1 (by omega)
      replace d2 := jhs hh d2 (by omega)
      replace d3 := jhs hh d3 (by omega)
      replace d4 := jhs_at hh d4
      replace E := jEq.hs hh E ⟨by omega, by omega⟩
      clear hh
      refine e_inc6N dX7_copy_120 rfl ?_
      refine e_goto 92 dX7_copy_123 (by decide) ?_
      refine ih (k + 1) _ _ (by omega) (by omega) hO d1 d2 d3 d4 (fun q hq => ?_) E
      unfold upd
      by_cases e : q = k
      · rw [if_pos e, e]
      · rw [if_neg e]; exact hSp q (by omega)
set_option maxRecDepth 100000 in
set_option maxHeartbeats 4000000 in
theorem r_copy {h : jH} {S : jS} (c : RI h S) (g : SG S) {a i b j n : Int32} : jM yX7_copy cX7_copy 7 (some .int) 2 none [.ref 218, .int a, .int i, .int b, .int j, .int n] h (rAns h (sp_copy a i b j n S)) := by
  obtain ⟨⟨s, hO, s0, hs⟩, ⟨L, I, Sp, N, d1, d2, d3, d4, dL, dN, dI⟩, -⟩ := id c
  obtain ⟨g0, g1, -⟩ := id g
  refine jM.ofF (by decide +kernel) rfl (Nat.le_of_ble_eq_true rfl) (fun X hX hI => ?_)
  show jV cX7_copy RX7 2 X none 0 [some (.ref 218), some (.int a), some (.int i), some (.int b), some (.int j), some (.int n), none] [] h
  refine e_il1 dX7_copy_0 ?_
  refine e_cs dX7_copy_1 sX7_69 (m_X7_isRow) (by decide) rfl rfl (Nat.le_of_ble_eq_true rfl) jBud0 ?_
  rintro _ _ ⟨rfl, rfl⟩
  refine e_if_eqB 14 dX7_copy_4 (by decide) (fun c_4 => ?_) (fun c_4 => ?_)
  · refine e_ldc dX7_copy_14 kX7_73 ?_
    exact e_iret hX dX7_copy_16 (by rw [sp_copy, if_neg c_4]; exact rAns.same c rfl) (fun z => z)
  · refine e_il3 dX7_copy_7 ?_
    refine e_cs dX7_copy_8 sX7_69 (m_X7_isRow) (by decide) rfl rfl (Nat.le_of_ble_eq_true rfl) jBud0 ?_
    rintro _ _ ⟨rfl, rfl⟩
    refine e_if_neB 17 dX7_copy_11 (by decide) (fun c_11 => ?_) (fun c_11 => ?_)
    · obtain ⟨a, -, ha, rfl⟩ := iR_of c_4 (by decide)
      obtain ⟨b, -, hb, rfl⟩ := iR_of c_11 (by decide)
      have ea : (nI a).toNatClampNeg = a := nI_clamp (by omega)
      have eb : (nI b).toNatClampNeg = b := nI_clamp (by omega)
      have g1a := g1 a (by omega)
      have g1b := g1 b (by omega)
      refine e_al0 dX7_copy_17 ?_
      refine e_il1 dX7_copy_18 ?_
      refine e_cv dX7_copy_19 vX7_81 (m_X7_isMissing hO d1 (by omega)) (by decide) rfl rfl (Nat.le_of_ble_eq_true rfl) jBud0 rfl hO ?_
      rintro _ _ ⟨rfl, rfl⟩
      refine e_if_neB 33 dX7_copy_22 (by decide) (fun c_22 => ?_) (fun c_22 => ?_)
      · rw [dL a (by omega), rLane_3 g1a.1] at c_22
        refine e_al0 dX7_copy_33 ?_
        refine e_iconst (nI 1) dX7_copy_34 (by decide) ?_
        refine e_cv dX7_copy_35 vX7_74 (m_X7_found hO) (by decide) rfl rfl (Nat.le_of_ble_eq_true rfl) jBud0 rfl hO ?_
        rintro _ h1 ⟨rfl, t1, E1⟩
        exact e_iret hX dX7_copy_38 (by rw [sp_copy, if_pos c_4, if_pos c_11, ea, eb, if_pos c_22]; exact ⟨rfl, c.st hs t1 E1, E1.mono (fun j q => by unfold jHi; omega)⟩) (fun z => z)
      · rw [dL a (by omega), rLane_3 g1a.1] at c_22
        refine e_al0 dX7_copy_25 ?_
        refine e_il3 dX7_copy_26 ?_
        refine e_cv dX7_copy_27 vX7_81 (m_X7_isMissing hO d1 (by omega)) (by decide) rfl rfl (Nat.le_of_ble_eq_true rfl) jBud0 rfl hO ?_
        rintro _ _ ⟨rfl, rfl⟩
        refine e_if_eqB 39 dX7_copy_30 (by decide) (fun c_30 => ?_) (fun c_30 => ?_)
        · rw [dL b (by omega), rLane_3 g1b.1] at c_30
          refine e_al0 dX7_copy_39 ?_
          refine e_get dX7_copy_40 fX7_7 hO rfl ?_
          refine e_il1 dX7_copy_43 ?_
          refine e_ialdI dX7_copy_44 d1 (by omega) (by decide) ?_
          refine e_al0 dX7_copy_45 ?_
          refine e_get dX7_copy_46 fX7_7 hO rfl ?_
          refine e_il3 dX7_copy_49 ?_
          refine e_ialdI dX7_copy_50 d1 (by omega) (by decide) ?_
          refine e_ic_eq 60 dX7_copy_51 (by decide) (fun c_51 => ?_) (fun c_51 => ?_)
          · rw [dL a (by omega), dL b (by omega), rLane_inj g1a.1 g1b.1] at c_51
            refine e_al0 dX7_copy_60 ?_
            refine e_il1 dX7_copy_61 ?_
            refine e_il2 dX7_copy_62 ?_
            refine e_il5 dX7_copy_63 ?_
            refine e_cv dX7_copy_65 vX7_88 (m_X7_isPart hO d2 (by omega) (by rw [dN a (by omega)]; omega)) (by decide) rfl rfl (Nat.le_of_ble_eq_true rfl) jBud0 rfl hO ?_
            rintro _ _ ⟨rfl, rfl⟩
            refine e_if_eqB 83 dX7_copy_68 (by decide) (fun c_68 => ?_) (fun c_68 => ?_)
            · refine e_al0 dX7_copy_83 ?_
              refine e_iconst (nI 2) dX7_copy_84 (by decide) ?_
              refine e_cv dX7_copy_85 vX7_74 (m_X7_found hO) (by decide) rfl rfl (Nat.le_of_ble_eq_true rfl) jBud0 rfl hO ?_
              rintro _ h1 ⟨rfl, t1, E1⟩
              exact e_iret hX dX7_copy_88 (by rw [sp_copy, if_pos c_4, if_pos c_11, ea, eb, if_neg c_22, if_neg c_30, if_pos c_51, if_neg (by rw [← dN a (by omega)]; exact c_68)]; exact ⟨rfl, c.st hs t1 E1, E1.mono (fun j q => by unfold jHi; omega)⟩) (fun z => z)
            · refine e_al0 dX7_copy_71 ?_
              refine e_il3 dX7_copy_72 ?_
              refine e_il4 dX7_copy_73 ?_
              refine e_il5 dX7_copy_75 ?_
              refine e_cv dX7_copy_77 vX7_88 (m_X7_isPart hO d2 (by omega) (by rw [dN b (by omega)]; omega)) (by decide) rfl rfl (Nat.le_of_ble_eq_true rfl) jBud0 rfl hO ?_
              rintro _ _ ⟨rfl, rfl⟩
              refine e_if_neB 89 dX7_copy_80 (by decide) (fun c_80 => ?_) (fun c_80 => ?_)
              · have ha1 := c_68
                have hb1 := c_80
                rw [dN a (by omega)] at ha1
                rw [dN b (by omega)] at hb1
                obtain ⟨i, n, hin, rfl, rfl⟩ := iP_of ha1 (by omega)
                obtain ⟨j, n', hjn, rfl, en'⟩ := iP_of hb1 (by omega)
                have en2 : n = n' := (nI_eq (by omega) (by omega)).mp en'
                subst en2
                have ei : (nI i).toNatClampNeg = i := nI_clamp (by omega)
                have ej : (nI j).toNatClampNeg = j := nI_clamp (by omega)
                have en : (nI n).toNatClampNeg = n := nI_clamp (by omega)
                have hsp : sp_copy (nI a) (nI i) (nI b) (nI j) (nI n) S = (nI n, ((0, S.1.2.1, S.1.2.2.1, fun q k => if q = b ∧ j ≤ k ∧ k < j + n then S.1.2.2.2 a (i + (k - j)) else S.1.2.2.2 q k), S.2)) := by
                  rw [sp_copy, if_pos c_4, if_pos c_11, ea, eb, if_neg c_22, if_neg c_30, if_pos c_51, if_pos ha1, if_pos hb1, ei, ej, en]
                refine e_iconst (nI 0) dX7_copy_89 (by decide) ?_
                refine e_is6 dX7_copy_90 rfl ?_
                exact lp_X7_copy1 c g hs dL dN dI (by omega) (by omega) hin hjn hsp hX (n + 1) 0 _ Sp (by omega) (by omega) hO d1 d2 d3 d4 (fun q hq => absurd hq (by omega)) jEq.rf
              · refine e_al0 dX7_copy_83 ?_
                refine e_iconst (nI 2) dX7_copy_84 (by decide) ?_
                refine e_cv dX7_copy_85 vX7_74 (m_X7_found hO) (by decide) rfl rfl (Nat.le_of_ble_eq_true rfl) jBud0 rfl hO ?_
                rintro _ h1 ⟨rfl, t1, E1⟩
                exact e_iret hX dX7_copy_88 (by rw [sp_copy, if_pos c_4, if_pos c_11, ea, eb, if_neg c_22, if_neg c_30, if_pos c_51, if_pos (by rw [← dN a (by omega)]; exact c_68), if_neg (by rw [← dN b (by omega)]; exact c_80)]; exact ⟨rfl, c.st hs t1 E1, E1.mono (fun j q => by unfold jHi; omega)⟩) (fun z => z)
          · rw [dL a (by omega), dL b (by omega), rLane_inj g1a.1 g1b.1] at c_51
            refine e_al0 dX7_copy_54 ?_
            refine e_iconst (nI 5) dX7_copy_55 (by decide) ?_
            refine e_cv dX7_copy_56 vX7_74 (m_X7_found hO) (by decide) rfl rfl (Nat.le_of_ble_eq_true rfl) jBud0 rfl hO ?_
            rintro _ h1 ⟨rfl, t1, E1⟩
            exact e_iret hX dX7_copy_59 (by rw [sp_copy, if_pos c_4, if_pos c_11, ea, eb, if_neg c_22, if_neg c_30, if_neg c_51]; exact ⟨rfl, c.st hs t1 E1, E1.mono (fun j q => by unfold jHi; omega)⟩) (fun z => z)
        · rw [dL b (by omega), rLane_3 g1b.1] at c_30
          refine e_al0 dX7_copy_33 ?_
          refine e_iconst (nI 1) dX7_copy_34 (by decide) ?_
          refine e_cv dX7_copy_35 vX7_74 (m_X7_found hO) (by decide) rfl rfl (Nat.le_of_ble_eq_true rfl) jBud0 rfl hO ?_
          rintro _ h1 ⟨rfl, t1, E1⟩
          exact e_iret hX dX7_copy_38 (by rw [sp_copy, if_pos c_4, if_pos c_11, ea, eb, if_neg c_22, if_pos c_30]; exact ⟨rfl, c.st hs t1 E1, E1.mono (fun j q => by unfold jHi; omega)⟩) (fun z => z)
    · refine e_ldc dX7_copy_14 kX7_73 ?_
      exact e_iret hX dX7_copy_16 (by rw [sp_copy, if_pos c_4, if_neg c_11]; exact rAns.same c rfl) (fun z => z)
