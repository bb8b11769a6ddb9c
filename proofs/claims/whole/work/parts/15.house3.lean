set_option maxRecDepth 100000 in
set_option maxHeartbeats 4000000 in
theorem lp_X3_passDay {h0 : jH} {h : jH} {o : Nat} {w : hw} {f k b p g z : Nat → Nat} (hC : HC h o w f k b p g z) (hV : HV w f k b p g) (ok : g_ok w) (hd : w 4 < 2 ^ 30) (hz : ∀ i, i < w 2 → z i = s_blown w i (w 3)) (hE : jEq h0 h (jIn o 7)) {X : jX} (hX : jRet X none none (fun v h' => v = none ∧ HA h' o (s_pass w) ∧ jEq h0 h' (jIn o 7))) : ∀ (n i : Nat) (b' : Nat → Nat), w 3 - i < n → i ≤ w 3 → (∀ q, q < w 3 → b' q = if q < i then s_keep w q else w (13 + 4 * q + 1)) → jV cX3_passDay RX3 3 X none 6 [some (.ref o), some (.int (nI i))] [] (h.set (o + 3) (jN 7 b')) := by
  intro n
  induction n with
  | zero => intros; omega
  | succ n ih =>
    intro i b' hm hi hb
    obtain ⟨k0, k1, k2, k3, k4, k5⟩ := id ok
    have hC2 := hC.setb (b' := b')
    have hV2 := hV.mid i k2 hb
    refine e_il1 dX3_passDay_6 ?_
    refine e_al0 dX3_passDay_7 ?_
    refine e_get dX3_passDay_8 fX3_43 hC2.1 rfl ?_
    refine e_ic_geN 34 dX3_passDay_11 (by decide) (by omega) (by omega) (fun c_11 => ?_) (fun c_11 => ?_)
    · refine e_al0 dX3_passDay_34 ?_
      refine e_cv dX3_passDay_35 vX3_81 (m_X3_burnAll hC2 k2 k1 (F := fun j => w (5 + j)) (Z := fun j => s_blown w j (w 3)) k4 (fun j hj => ⟨hz j hj, Nat.le_trans (s_blown_le w j (w 3)) (by omega)⟩) hV.1) (by decide) rfl rfl (Nat.le_of_ble_eq_true rfl) jBud0 rfl hC2.1 ?_
      rintro _ _ ⟨rfl, f1, rfl, hf1⟩
      have hC3 := hC2.setf (f' := f1)
      refine e_al0 dX3_passDay_38 ?_
      refine e_dup dX3_passDay_39 rfl ?_
      refine e_get dX3_passDay_40 fX3_34 hC3.1 rfl ?_
      refine e_iconst (nI 1) dX3_passDay_43 (by decide) ?_
      refine e_iaddN dX3_passDay_44 ?_
      refine e_put dX3_passDay_45 fX3_34 hC3.1 (Nat.le_of_ble_eq_true rfl) (fun g => ⟨rfl, rfl⟩) ?_
      exact e_ret hX dX3_passDay_48 (⟨rfl, ⟨f1, k, b', p, g, z, hC3.set0 (w' := s_pass w), ⟨fun j hj => by rw [hf1 j hj, s_pass_f w hj]; rfl, fun q hq => by
            have e0 := s_pass_o w (p := q) (j := 0) k2 (Or.inl rfl)
            rw [Nat.add_zero] at e0
            obtain ⟨a1, a2, a3, a4⟩ := hV.2 q hq
            rw [e0, s_pass_o w (p := q) (j := 2) k2 (by omega), s_pass_o w (p := q) (j := 3) k2 (by omega), s_pass_b w k2 hq]
            exact ⟨a1, by rw [hb q hq, if_pos (by rw [s_pass_3] at hq; omega)], a3, a4⟩⟩⟩, ((hE.st ⟨by omega, by omega⟩).st ⟨by omega, by omega⟩).st ⟨by omega, by omega⟩⟩) (fun z => z)
    · refine e_al0 dX3_passDay_14 ?_
      refine e_get dX3_passDay_15 fX3_18 hC2.1 rfl ?_
      refine e_il1 dX3_passDay_18 ?_
      refine e_dup2 dX3_passDay_19 rfl rfl ?_
      refine e_ialdN dX3_passDay_20 hC2.2.2.2.1 (by omega) (by decide) ?_
      refine e_al0 dX3_passDay_21 ?_
      refine e_il1 dX3_passDay_22 ?_
      refine e_cv dX3_passDay_23 vX3_78 (m_X3_changeOf (hC2.mid i) hV2 (s_mid_ok i ok) (i := i) (by rw [s_mid_lo w i (by omega)]; omega) (by rw [s_mid_lo w i (by omega)]; omega)) (by decide) rfl rfl (Nat.le_of_ble_eq_true rfl) jBud0 rfl hC2.1 ?_
      rintro _ _ ⟨rfl, rfl⟩
      refine e_iadd dX3_passDay_26 ?_
      have hkk : nI (b' i) + (nI (s_keep (s_mid w i) i) - nI (s_mid w i (13 + 4 * i + 1))) = nI (s_keep w i) := by
        have k5i := k5 i (by omega)
        rw [s_mid_keep (by omega) k2 (by omega), s_mid_b, if_neg (by omega), hb i (by omega), if_neg (by omega)]
        exact n_addsub _ _
      rw [hkk]
      refine e_iastN dX3_passDay_27 hC2.2.2.2.1 (by omega) (by decide) ?_
      rw [List.set_set]
      refine e_inc1N dX3_passDay_28 rfl ?_
      refine e_goto 6 dX3_passDay_31 (by decide) ?_
      refine ih (i + 1) _ (by omega) (by omega) (fun q hq => ?_)
      unfold va_up
      by_cases c : q = i
      · rw [if_pos c, if_pos (by omega), c]
      · rw [if_neg c, hb q hq]
        by_cases c2 : q < i
        · rw [if_pos c2, if_pos (by omega)]
        · rw [if_neg c2, if_neg (by omega)]
set_option maxRecDepth 100000 in
set_option maxHeartbeats 4000000 in
theorem mc_X3_passDay {h : jH} {o : Nat} {w : hw} {f k b p g z : Nat → Nat} (hC : HC h o w f k b p g z) (hV : HV w f k b p g) (ok : g_ok w) (hd : w 4 < 2 ^ 30) : jM yX3_passDay cX3_passDay 2 (none : Option Jvm.ClassFile.FieldType) 3 none [.ref o] h (fun v h' => v = none ∧ HA h' o (s_pass w) ∧ jEq h h' (jIn o 7)) := by
  refine jM.ofF (by decide +kernel) rfl (Nat.le_of_ble_eq_true rfl) (fun X hX hI => ?_)
  show jV cX3_passDay RX3 3 X none 0 [some (.ref o), none] [] h
  refine e_al0 dX3_passDay_0 ?_
  refine e_cv dX3_passDay_1 vX3_61 (m_X3_gatherBlown hC hV ok) (by decide) rfl rfl (Nat.le_of_ble_eq_true rfl) jBud0 rfl hC.1 ?_
  rintro _ _ ⟨rfl, z1, rfl, hz1⟩
  have hC1 := hC.setz (z' := z1)
  refine e_iconst (nI 0) dX3_passDay_4 (by decide) ?_
  refine e_is1 dX3_passDay_5 rfl ?_
  rw [← jset_same hC1.2.2.2.1]
  exact lp_X3_passDay hC1 hV ok hd hz1 (jEq.rf.st ⟨by omega, by omega⟩) hX (w 3 + 1) 0 b (by omega) (by omega) (fun q hq => by rw [if_neg (by omega)]; exact (hV.2 q hq).2.1)
theorem m_X3_passDay {h : jH} {o : Nat} {w : hw} (hA : HA h o w) (ok : g_ok w) (hd : w 4 < 2 ^ 30) : jM yX3_passDay cX3_passDay 2 (none : Option Jvm.ClassFile.FieldType) 3 none [.ref o] h (fun v h' => v = none ∧ HA h' o (s_pass w) ∧ jEq h h' (jIn o 7)) := by
  obtain ⟨f, k, b, p, g, z, hC, hV⟩ := hA
  exact mc_X3_passDay hC hV ok hd
set_option maxRecDepth 100000 in
set_option maxHeartbeats 4000000 in
theorem mc_X3_blownInto {h : jH} {o : Nat} {w : hw} {f k b p g z : Nat → Nat} (hC : HC h o w f k b p g z) (hV : HV w f k b p g) (ok : g_ok w) {i : Nat} (hi : i < w 2) : jM yX3_blownInto cX3_blownInto 2 (some .int) 3 none [.ref o, .int (nI i)] h (fun v h' => v = some (.int (nI (s_blown w i (w 3)))) ∧ HA h' o w ∧ jEq h h' (jIn o 7)) := by
  obtain ⟨k0, k1, k2, k3, k4, k5⟩ := id ok
  refine jM.ofF (by decide +kernel) rfl (Nat.le_of_ble_eq_true rfl) (fun X hX hI => ?_)
  show jV cX3_blownInto RX3 3 X none 0 [some (.ref o), some (.int (nI i))] [] h
  refine e_al0 dX3_blownInto_0 ?_
  refine e_cv dX3_blownInto_1 vX3_61 (m_X3_gatherBlown hC hV ok) (by decide) rfl rfl (Nat.le_of_ble_eq_true rfl) jBud0 rfl hC.1 ?_
  rintro _ _ ⟨rfl, z1, rfl, hz1⟩
  have hC1 := hC.setz (z' := z1)
  refine e_al0 dX3_blownInto_4 ?_
  refine e_get dX3_blownInto_5 fX3_27 hC1.1 rfl ?_
  refine e_il1 dX3_blownInto_8 ?_
  refine e_ialdN dX3_blownInto_9 hC1.2.2.2.2.2.2 (by omega) (by decide) ?_
  exact e_iret hX dX3_blownInto_10 (⟨by rw [hz1 i hi], ⟨f, k, b, p, g, z1, hC1, hV⟩, jEq.rf.st ⟨by omega, by omega⟩⟩) (fun z => z)
theorem m_X3_blownInto {h : jH} {o : Nat} {w : hw} (hA : HA h o w) (ok : g_ok w) {i : Nat} (hi : i < w 2) : jM yX3_blownInto cX3_blownInto 2 (some .int) 3 none [.ref o, .int (nI i)] h (fun v h' => v = some (.int (nI (s_blown w i (w 3)))) ∧ HA h' o w ∧ jEq h h' (jIn o 7)) := by
  obtain ⟨f, k, b, p, g, z, hC, hV⟩ := hA
  exact mc_X3_blownInto hC hV ok hi
set_option maxRecDepth 100000 in
set_option maxHeartbeats 4000000 in
theorem mc_X3_become {h : jH} {o q : Nat} {w : hw} {f k b p g z f0 k0 b0 p0 g0 z0 : Nat → Nat} {a0 a1 a2 a3 a4 : Int32} (T0 : h[o]? = some (jO 3 [.int a0, .int a1, .int a2, .int a3, .int a4, .ref (o + 1), .ref (o + 2), .ref (o + 3), .ref (o + 4), .ref (o + 5), .ref (o + 6)])) (T1 : h[o + 1]? = some (jN 8 f0)) (T2 : h[o + 2]? = some (jN 7 k0)) (T3 : h[o + 3]? = some (jN 7 b0)) (T4 : h[o + 4]? = some (jN 7 p0)) (T5 : h[o + 5]? = some (jN 7 g0)) (T6 : h[o + 6]? = some (jN 8 z0)) (O : HC h q w f k b p g z) (hV : HV w f k b p g) (h8 : w 2 ≤ 8) (h7 : w 3 ≤ 7) (hq : o + 7 ≤ q ∨ q + 7 ≤ o) : jM yX3_become cX3_become 2 (none : Option Jvm.ClassFile.FieldType) 1 none [.ref o, .ref q] h (fun v h' => v = none ∧ HA h' o w ∧ jEq h h' (jIn o 7)) := by
  have E : jEq h h (jIn o 7) := jEq.rf
  have hap : ∀ j, jIn o 7 j → ¬ jIn q 7 j := fun j a b => by unfold jIn at a b; omega
  refine jM.ofF (by decide +kernel) rfl (Nat.le_of_ble_eq_true rfl) (fun X hX hI => ?_)
  show jV cX3_become RX3 1 X none 0 [some (.ref o), some (.ref q)] [] h
  refine e_al0 dX3_become_0 ?_
  refine e_al1 dX3_become_1 ?_
  refine e_get dX3_become_2 fX3_34 O.1 rfl ?_
  refine e_put dX3_become_5 fX3_34 T0 (Nat.le_of_ble_eq_true rfl) (fun g => ⟨rfl, rfl⟩) ?_
  refine e_al0 dX3_become_8 ?_
  refine e_al1 dX3_become_9 ?_
  refine e_get dX3_become_10 fX3_37 (jset_ne O.1 (by omega)) rfl ?_
  refine e_put dX3_become_13 fX3_37 (jset_at T0) (Nat.le_of_ble_eq_true rfl) (fun g => ⟨rfl, rfl⟩) ?_
  rw [List.set_set]
  refine e_al0 dX3_become_16 ?_
  refine e_al1 dX3_become_17 ?_
  refine e_get dX3_become_18 fX3_40 (jset_ne O.1 (by omega)) rfl ?_
  refine e_put dX3_become_21 fX3_40 (jset_at T0) (Nat.le_of_ble_eq_true rfl) (fun g => ⟨rfl, rfl⟩) ?_
  rw [List.set_set]
  refine e_al0 dX3_become_24 ?_
  refine e_al1 dX3_become_25 ?_
  refine e_get dX3_become_26 fX3_30 (jset_ne O.1 (by omega)) rfl ?_
  refine e_put dX3_become_29 fX3_30 (jset_at T0) (Nat.le_of_ble_eq_true rfl) (fun g => ⟨rfl, rfl⟩) ?_
  rw [List.set_set]
  refine e_al0 dX3_become_32 ?_
  refine e_al1 dX3_become_33 ?_
  refine e_get dX3_become_34 fX3_43 (jset_ne O.1 (by omega)) rfl ?_
  refine e_put dX3_become_37 fX3_43 (jset_at T0) (Nat.le_of_ble_eq_true rfl) (fun g => ⟨rfl, rfl⟩) ?_
  rw [List.set_set]
  refine e_abs (fun h1 hh => ?_)
  replace T0 : h1[o]? = some (jO 3 [.int (nI (w 4)), .int (nI (w 0)), .int (nI (w 1)), .int (nI (w 2)), .int (nI (w 3)), .ref (o + 1), .ref (o + 2), .ref (o + 3), .ref (o + 4), .ref (o + 5), .ref (o + 6)]) := by rw [hh]; exact jset_at T0
  replace T1 := jhs hh T1 (by omega)
  replace T2 := jhs hh T2 (by omega)
  replace T3 := jhs hh T3 (by omega)
  replace T4 := jhs hh T4 (by omega)
  replace T5 := jhs hh T5 (by omega)
  replace T6 := jhs hh T6 (by omega)
  replace O := HC.hs hh O (by omega)
  replace E := jEq.hs hh E (show jIn o 7 o from ⟨by omega, by omega⟩)
  clear hh
  refine e_al1 dX3_become_40 ?_
  refine e_get dX3_become_41 fX3_11 O.1 rfl ?_
  refine e_iconst (nI 0) dX3_become_44 (by decide) ?_
  refine e_al0 dX3_become_45 ?_
  refine e_get dX3_become_46 fX3_11 T0 rfl ?_
  refine e_iconst (nI 0) dX3_become_49 (by decide) ?_
  refine e_bipush (nI 8) dX3_become_50 (by decide) ?_
  refine e_copyN dX3_become_52 aX3_46 O.2.1 T1 (by decide) (by decide) (by decide) (by decide) (Nat.le_of_ble_eq_true rfl) ?_
  refine e_abs (fun h2 hh => ?_)
  replace T0 := jhs hh T0 (by omega)
  replace T1 := jhs_at hh T1
  replace T2 := jhs hh T2 (by omega)
  replace T3 := jhs hh T3 (by omega)
  replace T4 := jhs hh T4 (by omega)
  replace T5 := jhs hh T5 (by omega)
  replace T6 := jhs hh T6 (by omega)
  replace O := HC.hs hh O (by omega)
  replace E := jEq.hs hh E (show jIn o 7 _ from ⟨by omega, by omega⟩)
  clear hh
  refine e_al1 dX3_become_55 ?_
  refine e_get dX3_become_56 fX3_15 O.1 rfl ?_
  refine e_iconst (nI 0) dX3_become_59 (by decide) ?_
  refine e_al0 dX3_become_60 ?_
  refine e_get dX3_become_61 fX3_15 T0 rfl ?_
  refine e_iconst (nI 0) dX3_become_64 (by decide) ?_
  refine e_bipush (nI 7) dX3_become_65 (by decide) ?_
  refine e_copyN dX3_become_67 aX3_46 O.2.2.1 T2 (by decide) (by decide) (by decide) (by decide) (Nat.le_of_ble_eq_true rfl) ?_
  refine e_abs (fun h3 hh => ?_)
  replace T0 := jhs hh T0 (by omega)
  replace T1 := jhs hh T1 (by omega)
  replace T2 := jhs_at hh T2
  replace T3 := jhs hh T3 (by omega)
  replace T4 := jhs hh T4 (by omega)
  replace T5 := jhs hh T5 (by omega)
  replace T6 := jhs hh T6 (by omega)
  replace O := HC.hs hh O (by omega)
  replace E := jEq.hs hh E (show jIn o 7 _ from ⟨by omega, by omega⟩)
  clear hh
  refine e_al1 dX3_become_70 ?_
  refine e_get dX3_become_71 fX3_18 O.1 rfl ?_
  refine e_iconst (nI 0) dX3_become_74 (by decide) ?_
  refine e_al0 dX3_become_75 ?_
  refine e_get dX3_become_76 fX3_18 T0 rfl ?_
  refine e_iconst (nI 0) dX3_become_79 (by decide) ?_
  refine e_bipush (nI 7) dX3_become_80 (by decide) ?_
  refine e_copyN dX3_become_82 aX3_46 O.2.2.2.1 T3 (by decide) (by decide) (by decide) (by decide) (Nat.le_of_ble_eq_true rfl) ?_
  refine e_abs (fun h4 hh => ?_)
  replace T0 := jhs hh T0 (by omega)
  replace T1 := jhs hh T1 (by omega)
  replace T2 := jhs hh T2 (by omega)
  replace T3 := jhs_at hh T3
  replace T4 := jhs hh T4 (by omega)
  replace T5 := jhs hh T5 (by omega)
  replace T6 := jhs hh T6 (by omega)
  replace O := HC.hs hh O (by omega)
  replace E := jEq.hs hh E (show jIn o 7 _ from ⟨by omega, by omega⟩)
  clear hh
  refine e_al1 dX3_become_85 ?_
  refine e_get dX3_become_86 fX3_21 O.1 rfl ?_
  refine e_iconst (nI 0) dX3_become_89 (by decide) ?_
  refine e_al0 dX3_become_90 ?_
  refine e_get dX3_become_91 fX3_21 T0 rfl ?_
  refine e_iconst (nI 0) dX3_become_94 (by decide) ?_
  refine e_bipush (nI 7) dX3_become_95 (by decide) ?_
  refine e_copyN dX3_become_97 aX3_46 O.2.2.2.2.1 T4 (by decide) (by decide) (by decide) (by decide) (Nat.le_of_ble_eq_true rfl) ?_
  refine e_abs (fun h5 hh => ?_)
  replace T0 := jhs hh T0 (by omega)
  replace T1 := jhs hh T1 (by omega)
  replace T2 := jhs hh T2 (by omega)
  replace T3 := jhs hh T3 (by omega)
  replace T4 := jhs_at hh T4
  replace T5 := jhs hh T5 (by omega)
  replace T6 := jhs hh T6 (by omega)
  replace O := HC.hs hh O (by omega)
  replace E := jEq.hs hh E (show jIn o 7 _ from ⟨by omega, by omega⟩)
  clear hh
  refine e_al1 dX3_become_100 ?_
  refine e_get dX3_become_101 fX3_24 O.1 rfl ?_
  refine e_iconst (nI 0) dX3_become_104 (by decide) ?_
  refine e_al0 dX3_become_105 ?_
  refine e_get dX3_become_106 fX3_24 T0 rfl ?_
  refine e_iconst (nI 0) dX3_become_109 (by decide) ?_
  refine e_bipush (nI 7) dX3_become_110 (by decide) ?_
  refine e_copyN dX3_become_112 aX3_46 O.2.2.2.2.2.1 T5 (by decide) (by decide) (by decide) (by decide) (Nat.le_of_ble_eq_true rfl) ?_
  refine e_abs (fun h6 hh => ?_)
  replace T0 := jhs hh T0 (by omega)
  replace T1 := jhs hh T1 (by omega)
  replace T2 := jhs hh T2 (by omega)
  replace T3 := jhs hh T3 (by omega)
  replace T4 := jhs hh T4 (by omega)
  replace T5 := jhs_at hh T5
  replace T6 := jhs hh T6 (by omega)
  replace O := HC.hs hh O (by omega)
  replace E := jEq.hs hh E (show jIn o 7 _ from ⟨by omega, by omega⟩)
  clear hh
  exact e_ret hX dX3_become_115 (⟨rfl, ⟨_, _, _, _, _, z0, ⟨T0, T1, T2, T3, T4, T5, T6⟩, ⟨fun i hi => by rw [va_cpy0 (by omega)]; exact hV.1 i hi, fun i hi => by rw [va_cpy0 (by omega), va_cpy0 (by omega), va_cpy0 (by omega), va_cpy0 (by omega)]; exact hV.2 i hi⟩⟩, E⟩) (fun z => z)
theorem m_X3_become {h : jH} {o q : Nat} {w w0 : hw} (T : HA h o w0) (O : HA h q w) (h8 : w 2 ≤ 8) (h7 : w 3 ≤ 7) (hq : o + 7 ≤ q ∨ q + 7 ≤ o) : jM yX3_become cX3_become 2 (none : Option Jvm.ClassFile.FieldType) 1 none [.ref o, .ref q] h (fun v h' => v = none ∧ HA h' o w ∧ jEq h h' (jIn o 7)) := by
  obtain ⟨f0, k0, b0, p0, g0, z0, ⟨T0, T1, T2, T3, T4, T5, T6⟩, -⟩ := T
  obtain ⟨f, k, b, p, g, z, hC, hV⟩ := O
  exact mc_X3_become T0 T1 T2 T3 T4 T5 T6 hC hV h8 h7 hq
