theorem n_nsub {m x : Nat} (h : m ≤ x) : -(nI m) = nI (x - m) - nI x := by
  have e : nI x = nI (x - m) + nI m := by rw [nI_add]; congr 1; omega
  rw [e]
  generalize nI (x - m) = A
  generalize nI m = B
  apply Int32.toBitVec_inj.1
  show -B.toBitVec = A.toBitVec - (A.toBitVec + B.toBitVec)
  generalize A.toBitVec = a
  generalize B.toBitVec = b
  apply BitVec.eq_of_toNat_eq
  simp only [BitVec.toNat_neg, BitVec.toNat_sub, BitVec.toNat_add]
  omega
theorem n_psub (m x : Nat) : nI m = nI (x + m) - nI x := by
  rw [pk_sub (by omega)]
  congr 1
  omega
theorem n_addsub (x y : Nat) : nI x + (nI y - nI x) = nI y := by
  rw [Int32.sub_eq_add_neg, ← Int32.add_assoc, Int32.add_comm (nI x), Int32.add_assoc, ← Int32.sub_eq_add_neg, Int32.sub_self, Int32.add_zero]
set_option maxRecDepth 100000 in
set_option maxHeartbeats 4000000 in
theorem m_X3_changeOf {h : jH} {o : Nat} {w : hw} {f k b p g z : Nat → Nat} (hC : HC h o w f k b p g z) (hV : HV w f k b p g) (ok : g_ok w) {i : Nat} (hi : i < w 3) (hd : w 4 < 2 ^ 31) : jM yX3_changeOf cX3_changeOf 3 (some .int) 2 none [.ref o, .int (nI i)] h (jRt (.int (nI (s_keep w i) - nI (w (13 + 4 * i + 1)))) h) := by
  obtain ⟨k0, k1, k2, k3, k4, k5⟩ := id ok
  have hgi := hV.2 i hi
  have k5i := k5 i hi
  have hwl := s_warm_le w
  have hbl := s_blow_le2 w i
  have hfi : f (p i) = w (5 + w (13 + 4 * i + 2)) := by rw [hgi.2.2.1, hV.1 _ (by omega)]
  have k4i := k4 (w (13 + 4 * i + 2)) (by omega)
  refine jM.ofF (by decide +kernel) rfl (Nat.le_of_ble_eq_true rfl) (fun X hX hI => ?_)
  show jV cX3_changeOf RX3 2 X none 0 [some (.ref o), some (.int (nI i)), none] [] h
  refine e_al0 dX3_changeOf_0 ?_
  refine e_get dX3_changeOf_1 fX3_24 hC.1 rfl ?_
  refine e_il1 dX3_changeOf_4 ?_
  refine e_ialdN dX3_changeOf_5 hC.2.2.2.2.2.1 (by omega) (by decide) ?_
  refine e_if_neN 16 dX3_changeOf_6 (by decide) (by omega) (fun c_6 => ?_) (fun c_6 => ?_)
  · refine e_al0 dX3_changeOf_16 ?_
    refine e_cv dX3_changeOf_17 vX3_68 (m_X3_isWarmDay hC hV ok hd) (by decide) rfl rfl (Nat.le_of_ble_eq_true rfl) jBud0 rfl hC.1 ?_
    rintro _ _ ⟨rfl, rfl⟩
    refine e_if_eqB 27 dX3_changeOf_20 (by decide) (fun c_20 => ?_) (fun c_20 => ?_)
    · refine e_iconst (nI 0) dX3_changeOf_27 (by decide) ?_
      refine e_is2 dX3_changeOf_28 rfl ?_
      refine e_al0 dX3_changeOf_29 ?_
      refine e_get dX3_changeOf_30 fX3_15 hC.1 rfl ?_
      refine e_il1 dX3_changeOf_33 ?_
      refine e_ialdN dX3_changeOf_34 hC.2.2.1 (by omega) (by decide) ?_
      rcases (show k i = 1 ∨ k i = 2 ∨ k i = 3 ∨ k i = 4 ∨ k i = 5 by omega) with e | e | e | e | e
      · rw [e]
        refine e_tin 68 dX3_changeOf_35 (by decide) (by decide) rfl (by decide) ?_
        refine e_il2 dX3_changeOf_68 ?_
        refine e_al0 dX3_changeOf_69 ?_
        refine e_get dX3_changeOf_70 fX3_18 hC.1 rfl ?_
        refine e_il1 dX3_changeOf_73 ?_
        refine e_ialdN dX3_changeOf_74 hC.2.2.2.1 (by omega) (by decide) ?_
        refine e_cs dX3_changeOf_75 sX3_72 (m_minN (by omega) (by omega)) (by decide) rfl rfl (Nat.le_of_ble_eq_true rfl) jBud0 ?_
        rintro _ _ ⟨rfl, rfl⟩
        refine e_ineg dX3_changeOf_78 ?_
        exact e_iret hX dX3_changeOf_79 (by first | exact jRt_e (Eq.trans (n_nsub (x := w (13 + 4 * i + 1)) (by omega)) (congrArg (fun m => nI m - nI (w (13 + 4 * i + 1))) (by unfold s_keep s_leak; (repeat' split) <;> omega))) | exact jRt_e (Eq.trans (n_psub _ (w (13 + 4 * i + 1))) (congrArg (fun m => nI m - nI (w (13 + 4 * i + 1))) (by unfold s_keep s_leak; (repeat' split) <;> omega)))) (fun z => z)
      · rw [e]
        refine e_tin 80 dX3_changeOf_35 (by decide) (by decide) rfl (by decide) ?_
        refine e_iconst (nI 2) dX3_changeOf_80 (by decide) ?_
        refine e_il2 dX3_changeOf_81 ?_
        refine e_imulN dX3_changeOf_82 ?_
        refine e_iconst (nI 1) dX3_changeOf_83 (by decide) ?_
        refine e_iaddN dX3_changeOf_84 ?_
        refine e_al0 dX3_changeOf_85 ?_
        refine e_get dX3_changeOf_86 fX3_18 hC.1 rfl ?_
        refine e_il1 dX3_changeOf_89 ?_
        refine e_ialdN dX3_changeOf_90 hC.2.2.2.1 (by omega) (by decide) ?_
        refine e_cs dX3_changeOf_91 sX3_72 (m_minN (by omega) (by omega)) (by decide) rfl rfl (Nat.le_of_ble_eq_true rfl) jBud0 ?_
        rintro _ _ ⟨rfl, rfl⟩
        refine e_ineg dX3_changeOf_94 ?_
        exact e_iret hX dX3_changeOf_95 (by first | exact jRt_e (Eq.trans (n_nsub (x := w (13 + 4 * i + 1)) (by omega)) (congrArg (fun m => nI m - nI (w (13 + 4 * i + 1))) (by unfold s_keep s_leak; (repeat' split) <;> omega))) | exact jRt_e (Eq.trans (n_psub _ (w (13 + 4 * i + 1))) (congrArg (fun m => nI m - nI (w (13 + 4 * i + 1))) (by unfold s_keep s_leak; (repeat' split) <;> omega)))) (fun z => z)
      · rw [e]
        refine e_tin 96 dX3_changeOf_35 (by decide) (by decide) rfl (by decide) ?_
        refine e_al0 dX3_changeOf_96 ?_
        refine e_al0 dX3_changeOf_97 ?_
        refine e_get dX3_changeOf_98 fX3_21 hC.1 rfl ?_
        refine e_il1 dX3_changeOf_101 ?_
        refine e_ialdN dX3_changeOf_102 hC.2.2.2.2.1 (by omega) (by decide) ?_
        refine e_cv dX3_changeOf_103 vX3_52 (m_X3_isLit hC (i := p i) (by omega) (by rw [hfi]; omega)) (by decide) rfl rfl (Nat.le_of_ble_eq_true rfl) jBud0 rfl hC.1 ?_
        rintro _ _ ⟨rfl, rfl⟩
        rw [hfi]
        refine e_if_eqB 113 dX3_changeOf_106 (by decide) (fun c_106 => ?_) (fun c_106 => ?_)
        · refine e_il2 dX3_changeOf_113 ?_
          refine e_al0 dX3_changeOf_114 ?_
          refine e_get dX3_changeOf_115 fX3_18 hC.1 rfl ?_
          refine e_il1 dX3_changeOf_118 ?_
          refine e_ialdN dX3_changeOf_119 hC.2.2.2.1 (by omega) (by decide) ?_
          refine e_cs dX3_changeOf_120 sX3_72 (m_minN (by omega) (by omega)) (by decide) rfl rfl (Nat.le_of_ble_eq_true rfl) jBud0 ?_
          rintro _ _ ⟨rfl, rfl⟩
          refine e_ineg dX3_changeOf_123 ?_
          exact e_iret hX dX3_changeOf_124 (by first | exact jRt_e (Eq.trans (n_nsub (x := w (13 + 4 * i + 1)) (by omega)) (congrArg (fun m => nI m - nI (w (13 + 4 * i + 1))) (by unfold s_keep s_leak; (repeat' split) <;> omega))) | exact jRt_e (Eq.trans (n_psub _ (w (13 + 4 * i + 1))) (congrArg (fun m => nI m - nI (w (13 + 4 * i + 1))) (by unfold s_keep s_leak; (repeat' split) <;> omega)))) (fun z => z)
        · refine e_iconst (nI 0) dX3_changeOf_109 (by decide) ?_
          refine e_goto 124 dX3_changeOf_110 (by decide) ?_
          exact e_iret hX dX3_changeOf_124 (by first | exact jRt_e (Eq.trans (n_nsub (x := w (13 + 4 * i + 1)) (by omega)) (congrArg (fun m => nI m - nI (w (13 + 4 * i + 1))) (by unfold s_keep s_leak; (repeat' split) <;> omega))) | exact jRt_e (Eq.trans (n_psub _ (w (13 + 4 * i + 1))) (congrArg (fun m => nI m - nI (w (13 + 4 * i + 1))) (by unfold s_keep s_leak; (repeat' split) <;> omega)))) (fun z => z)
      · rw [e]
        refine e_tin 139 dX3_changeOf_35 (by decide) (by decide) rfl (by decide) ?_
        refine e_iconst (nI 0) dX3_changeOf_139 (by decide) ?_
        exact e_iret hX dX3_changeOf_140 (by first | exact jRt_e (Eq.trans (n_nsub (x := w (13 + 4 * i + 1)) (by omega)) (congrArg (fun m => nI m - nI (w (13 + 4 * i + 1))) (by unfold s_keep s_leak; (repeat' split) <;> omega))) | exact jRt_e (Eq.trans (n_psub _ (w (13 + 4 * i + 1))) (congrArg (fun m => nI m - nI (w (13 + 4 * i + 1))) (by unfold s_keep s_leak; (repeat' split) <;> omega)))) (fun z => z)
      · rw [e]
        refine e_tin 125 dX3_changeOf_35 (by decide) (by decide) rfl (by decide) ?_
        refine e_il2 dX3_changeOf_125 ?_
        refine e_bipush (nI 40) dX3_changeOf_126 (by decide) ?_
        refine e_al0 dX3_changeOf_128 ?_
        refine e_get dX3_changeOf_129 fX3_18 hC.1 rfl ?_
        refine e_il1 dX3_changeOf_132 ?_
        refine e_ialdN dX3_changeOf_133 hC.2.2.2.1 (by omega) (by decide) ?_
        refine e_isubN dX3_changeOf_134 (by omega) ?_
        refine e_cs dX3_changeOf_135 sX3_72 (m_minN (by omega) (by omega)) (by decide) rfl rfl (Nat.le_of_ble_eq_true rfl) jBud0 ?_
        rintro _ _ ⟨rfl, rfl⟩
        exact e_iret hX dX3_changeOf_138 (by first | exact jRt_e (Eq.trans (n_nsub (x := w (13 + 4 * i + 1)) (by omega)) (congrArg (fun m => nI m - nI (w (13 + 4 * i + 1))) (by unfold s_keep s_leak; (repeat' split) <;> omega))) | exact jRt_e (Eq.trans (n_psub _ (w (13 + 4 * i + 1))) (congrArg (fun m => nI m - nI (w (13 + 4 * i + 1))) (by unfold s_keep s_leak; (repeat' split) <;> omega)))) (fun z => z)
      
    · refine e_iconst (nI 1) dX3_changeOf_23 (by decide) ?_
      refine e_goto 28 dX3_changeOf_24 (by decide) ?_
      refine e_is2 dX3_changeOf_28 rfl ?_
      refine e_al0 dX3_changeOf_29 ?_
      refine e_get dX3_changeOf_30 fX3_15 hC.1 rfl ?_
      refine e_il1 dX3_changeOf_33 ?_
      refine e_ialdN dX3_changeOf_34 hC.2.2.1 (by omega) (by decide) ?_
      rcases (show k i = 1 ∨ k i = 2 ∨ k i = 3 ∨ k i = 4 ∨ k i = 5 by omega) with e | e | e | e | e
      · rw [e]
        refine e_tin 68 dX3_changeOf_35 (by decide) (by decide) rfl (by decide) ?_
        refine e_il2 dX3_changeOf_68 ?_
        refine e_al0 dX3_changeOf_69 ?_
        refine e_get dX3_changeOf_70 fX3_18 hC.1 rfl ?_
        refine e_il1 dX3_changeOf_73 ?_
        refine e_ialdN dX3_changeOf_74 hC.2.2.2.1 (by omega) (by decide) ?_
        refine e_cs dX3_changeOf_75 sX3_72 (m_minN (by omega) (by omega)) (by decide) rfl rfl (Nat.le_of_ble_eq_true rfl) jBud0 ?_
        rintro _ _ ⟨rfl, rfl⟩
        refine e_ineg dX3_changeOf_78 ?_
        exact e_iret hX dX3_changeOf_79 (by first | exact jRt_e (Eq.trans (n_nsub (x := w (13 + 4 * i + 1)) (by omega)) (congrArg (fun m => nI m - nI (w (13 + 4 * i + 1))) (by unfold s_keep s_leak; (repeat' split) <;> omega))) | exact jRt_e (Eq.trans (n_psub _ (w (13 + 4 * i + 1))) (congrArg (fun m => nI m - nI (w (13 + 4 * i + 1))) (by unfold s_keep s_leak; (repeat' split) <;> omega)))) (fun z => z)
      · rw [e]
        refine e_tin 80 dX3_changeOf_35 (by decide) (by decide) rfl (by decide) ?_
        refine e_iconst (nI 2) dX3_changeOf_80 (by decide) ?_
        refine e_il2 dX3_changeOf_81 ?_
        refine e_imulN dX3_changeOf_82 ?_
        refine e_iconst (nI 1) dX3_changeOf_83 (by decide) ?_
        refine e_iaddN dX3_changeOf_84 ?_
        refine e_al0 dX3_changeOf_85 ?_
        refine e_get dX3_changeOf_86 fX3_18 hC.1 rfl ?_
        refine e_il1 dX3_changeOf_89 ?_
        refine e_ialdN dX3_changeOf_90 hC.2.2.2.1 (by omega) (by decide) ?_
        refine e_cs dX3_changeOf_91 sX3_72 (m_minN (by omega) (by omega)) (by decide) rfl rfl (Nat.le_of_ble_eq_true rfl) jBud0 ?_
        rintro _ _ ⟨rfl, rfl⟩
        refine e_ineg dX3_changeOf_94 ?_
        exact e_iret hX dX3_changeOf_95 (by first | exact jRt_e (Eq.trans (n_nsub (x := w (13 + 4 * i + 1)) (by omega)) (congrArg (fun m => nI m - nI (w (13 + 4 * i + 1))) (by unfold s_keep s_leak; (repeat' split) <;> omega))) | exact jRt_e (Eq.trans (n_psub _ (w (13 + 4 * i + 1))) (congrArg (fun m => nI m - nI (w (13 + 4 * i + 1))) (by unfold s_keep s_leak; (repeat' split) <;> omega)))) (fun z => z)
      · rw [e]
        refine e_tin 96 dX3_changeOf_35 (by decide) (by decide) rfl (by decide) ?_
        refine e_al0 dX3_changeOf_96 ?_
        refine e_al0 dX3_changeOf_97 ?_
        refine e_get dX3_changeOf_98 fX3_21 hC.1 rfl ?_
        refine e_il1 dX3_changeOf_101 ?_
        refine e_ialdN dX3_changeOf_102 hC.2.2.2.2.1 (by omega) (by decide) ?_
        refine e_cv dX3_changeOf_103 vX3_52 (m_X3_isLit hC (i := p i) (by omega) (by rw [hfi]; omega)) (by decide) rfl rfl (Nat.le_of_ble_eq_true rfl) jBud0 rfl hC.1 ?_
        rintro _ _ ⟨rfl, rfl⟩
        rw [hfi]
        refine e_if_eqB 113 dX3_changeOf_106 (by decide) (fun c_106 => ?_) (fun c_106 => ?_)
        · refine e_il2 dX3_changeOf_113 ?_
          refine e_al0 dX3_changeOf_114 ?_
          refine e_get dX3_changeOf_115 fX3_18 hC.1 rfl ?_
          refine e_il1 dX3_changeOf_118 ?_
          refine e_ialdN dX3_changeOf_119 hC.2.2.2.1 (by omega) (by decide) ?_
          refine e_cs dX3_changeOf_120 sX3_72 (m_minN (by omega) (by omega)) (by decide) rfl rfl (Nat.le_of_ble_eq_true rfl) jBud0 ?_
          rintro _ _ ⟨rfl, rfl⟩
          refine e_ineg dX3_changeOf_123 ?_
          exact e_iret hX dX3_changeOf_124 (by first | exact jRt_e (Eq.trans (n_nsub (x := w (13 + 4 * i + 1)) (by omega)) (congrArg (fun m => nI m - nI (w (13 + 4 * i + 1))) (by unfold s_keep s_leak; (repeat' split) <;> omega))) | exact jRt_e (Eq.trans (n_psub _ (w (13 + 4 * i + 1))) (congrArg (fun m => nI m - nI (w (13 + 4 * i + 1))) (by unfold s_keep s_leak; (repeat' split) <;> omega)))) (fun z => z)
        · refine e_iconst (nI 0) dX3_changeOf_109 (by decide) ?_
          refine e_goto 124 dX3_changeOf_110 (by decide) ?_
          exact e_iret hX dX3_changeOf_124 (by first | exact jRt_e (Eq.trans (n_nsub (x := w (13 + 4 * i + 1)) (by omega)) (congrArg (fun m => nI m - nI (w (13 + 4 * i + 1))) (by unfold s_keep s_leak; (repeat' split) <;> omega))) | exact jRt_e (Eq.trans (n_psub _ (w (13 + 4 * i + 1))) (congrArg (fun m => nI m - nI (w (13 + 4 * i + 1))) (by unfold s_keep s_leak; (repeat' split) <;> omega)))) (fun z => z)
      · rw [e]
        refine e_tin 139 dX3_changeOf_35 (by decide) (by decide) rfl (by decide) ?_
        refine e_iconst (nI 0) dX3_changeOf_139 (by decide) ?_
        exact e_iret hX dX3_changeOf_140 (by first | exact jRt_e (Eq.trans (n_nsub (x := w (13 + 4 * i + 1)) (by omega)) (congrArg (fun m => nI m - nI (w (13 + 4 * i + 1))) (by unfold s_keep s_leak; (repeat' split) <;> omega))) | exact jRt_e (Eq.trans (n_psub _ (w (13 + 4 * i + 1))) (congrArg (fun m => nI m - nI (w (13 + 4 * i + 1))) (by unfold s_keep s_leak; (repeat' split) <;> omega)))) (fun z => z)
      · rw [e]
        refine e_tin 125 dX3_changeOf_35 (by decide) (by decide) rfl (by decide) ?_
        refine e_il2 dX3_changeOf_125 ?_
        refine e_bipush (nI 40) dX3_changeOf_126 (by decide) ?_
        refine e_al0 dX3_changeOf_128 ?_
        refine e_get dX3_changeOf_129 fX3_18 hC.1 rfl ?_
        refine e_il1 dX3_changeOf_132 ?_
        refine e_ialdN dX3_changeOf_133 hC.2.2.2.1 (by omega) (by decide) ?_
        refine e_isubN dX3_changeOf_134 (by omega) ?_
        refine e_cs dX3_changeOf_135 sX3_72 (m_minN (by omega) (by omega)) (by decide) rfl rfl (Nat.le_of_ble_eq_true rfl) jBud0 ?_
        rintro _ _ ⟨rfl, rfl⟩
        exact e_iret hX dX3_changeOf_138 (by first | exact jRt_e (Eq.trans (n_nsub (x := w (13 + 4 * i + 1)) (by omega)) (congrArg (fun m => nI m - nI (w (13 + 4 * i + 1))) (by unfold s_keep s_leak; (repeat' split) <;> omega))) | exact jRt_e (Eq.trans (n_psub _ (w (13 + 4 * i + 1))) (congrArg (fun m => nI m - nI (w (13 + 4 * i + 1))) (by unfold s_keep s_leak; (repeat' split) <;> omega)))) (fun z => z)
      
  · refine e_al0 dX3_changeOf_9 ?_
    refine e_il1 dX3_changeOf_10 ?_
    refine e_cv dX3_changeOf_11 vX3_64 (m_X3_blownBy hC hV ok hi) (by decide) rfl rfl (Nat.le_of_ble_eq_true rfl) jBud0 rfl hC.1 ?_
    rintro _ _ ⟨rfl, rfl⟩
    refine e_ineg dX3_changeOf_14 ?_
    exact e_iret hX dX3_changeOf_15 (by first | exact jRt_e (Eq.trans (n_nsub (x := w (13 + 4 * i + 1)) (by omega)) (congrArg (fun m => nI m - nI (w (13 + 4 * i + 1))) (by unfold s_keep s_leak; (repeat' split) <;> omega))) | exact jRt_e (Eq.trans (n_psub _ (w (13 + 4 * i + 1))) (congrArg (fun m => nI m - nI (w (13 + 4 * i + 1))) (by unfold s_keep s_leak; (repeat' split) <;> omega)))) (fun z => z)
set_option maxRecDepth 100000 in
set_option maxHeartbeats 4000000 in
theorem lp_X3_gather2 {h : jH} {o : Nat} {w : hw} {f k b p g z : Nat → Nat} (hC : HC h o w f k b p g z) (hV : HV w f k b p g) (ok : g_ok w) {X : jX} (hX : jRet X none none (fun v h' => v = none ∧ ∃ z' : Nat → Nat, h' = h.set (o + 6) (jN 8 z') ∧ ∀ i, i < w 2 → z' i = s_blown w i (w 3))) : ∀ (n i : Nat) (z' : Nat → Nat), w 3 - i < n → i ≤ w 3 → (∀ j, j < w 2 → z' j = s_blown w j i) → jV cX3_gatherBlown RX3 2 X none 25 [some (.ref o), some (.int (nI i))] [] (h.set (o + 6) (jN 8 z')) := by
  intro n
  induction n with
  | zero => intros; omega
  | succ n ih =>
    intro i z' hm hi hz
    obtain ⟨k0, k1, k2, k3, k4, k5⟩ := id ok
    have hC1 := hC.setz (z' := z')
    refine e_il1 dX3_gatherBlown_25 ?_
    refine e_al0 dX3_gatherBlown_26 ?_
    refine e_get dX3_gatherBlown_27 fX3_43 hC1.1 rfl ?_
    refine e_ic_geN 58 dX3_gatherBlown_30 (by decide) (by omega) (by omega) (fun c_30 => ?_) (fun c_30 => ?_)
    · exact e_ret hX dX3_gatherBlown_58 (⟨rfl, z', rfl, fun j hj => by rw [hz j hj, show i = w 3 by omega]⟩) (fun z => z)
    · have hgi := hV.2 i (by omega)
      have k5i := k5 i (by omega)
      refine e_al0 dX3_gatherBlown_33 ?_
      refine e_get dX3_gatherBlown_34 fX3_27 hC1.1 rfl ?_
      refine e_al0 dX3_gatherBlown_37 ?_
      refine e_get dX3_gatherBlown_38 fX3_21 hC1.1 rfl ?_
      refine e_il1 dX3_gatherBlown_41 ?_
      refine e_ialdN dX3_gatherBlown_42 hC1.2.2.2.2.1 (by omega) (by decide) ?_
      refine e_dup2 dX3_gatherBlown_43 rfl rfl ?_
      refine e_ialdN dX3_gatherBlown_44 hC1.2.2.2.2.2.2 (by omega) (by decide) ?_
      refine e_al0 dX3_gatherBlown_45 ?_
      refine e_il1 dX3_gatherBlown_46 ?_
      refine e_cv dX3_gatherBlown_47 vX3_64 (m_X3_blownBy hC1 hV ok (by omega)) (by decide) rfl rfl (Nat.le_of_ble_eq_true rfl) jBud0 rfl hC1.1 ?_
      rintro _ _ ⟨rfl, rfl⟩
      refine e_iaddN dX3_gatherBlown_50 ?_
      refine e_iastN dX3_gatherBlown_51 hC1.2.2.2.2.2.2 (by omega) (by decide) ?_
      rw [List.set_set]
      refine e_inc1N dX3_gatherBlown_52 rfl ?_
      refine e_goto 25 dX3_gatherBlown_55 (by decide) ?_
      refine ih (i + 1) _ (by omega) (by omega) (fun j hj => ?_)
      unfold va_up
      by_cases q : j = p i
      · rw [if_pos q, s_blown, if_pos (by omega), ← hz j hj, q]
      · rw [if_neg q, s_blown, if_neg (by omega), hz j hj]; rfl
set_option maxRecDepth 100000 in
set_option maxHeartbeats 4000000 in
theorem lp_X3_gather1 {h : jH} {o : Nat} {w : hw} {f k b p g z : Nat → Nat} (hC : HC h o w f k b p g z) (hV : HV w f k b p g) (ok : g_ok w) {X : jX} (hX : jRet X none none (fun v h' => v = none ∧ ∃ z' : Nat → Nat, h' = h.set (o + 6) (jN 8 z') ∧ ∀ i, i < w 2 → z' i = s_blown w i (w 3))) : ∀ (n i : Nat) (z' : Nat → Nat), w 2 - i < n → i ≤ w 2 → (∀ j, j < i → z' j = 0) → jV cX3_gatherBlown RX3 2 X none 2 [some (.ref o), some (.int (nI i))] [] (h.set (o + 6) (jN 8 z')) := by
  intro n
  induction n with
  | zero => intros; omega
  | succ n ih =>
    intro i z' hm hi hz
    obtain ⟨k0, k1, k2, k3, k4, k5⟩ := id ok
    have hC1 := hC.setz (z' := z')
    refine e_il1 dX3_gatherBlown_2 ?_
    refine e_al0 dX3_gatherBlown_3 ?_
    refine e_get dX3_gatherBlown_4 fX3_30 hC1.1 rfl ?_
    refine e_ic_geN 23 dX3_gatherBlown_7 (by decide) (by omega) (by omega) (fun c_7 => ?_) (fun c_7 => ?_)
    · refine e_iconst (nI 0) dX3_gatherBlown_23 (by decide) ?_
      refine e_is1 dX3_gatherBlown_24 rfl ?_
      exact lp_X3_gather2 hC hV ok hX (w 3 + 1) 0 z' (by omega) (by omega) (fun j hj => hz j (by omega))
    · refine e_al0 dX3_gatherBlown_10 ?_
      refine e_get dX3_gatherBlown_11 fX3_27 hC1.1 rfl ?_
      refine e_il1 dX3_gatherBlown_14 ?_
      refine e_iconst (nI 0) dX3_gatherBlown_15 (by decide) ?_
      refine e_iastN dX3_gatherBlown_16 hC1.2.2.2.2.2.2 (by omega) (by decide) ?_
      rw [List.set_set]
      refine e_inc1N dX3_gatherBlown_17 rfl ?_
      refine e_goto 2 dX3_gatherBlown_20 (by decide) ?_
      refine ih (i + 1) _ (by omega) (by omega) (fun j hj => ?_)
      unfold va_up
      by_cases q : j = i
      · rw [if_pos q]
      · rw [if_neg q, hz j (by omega)]
set_option maxRecDepth 100000 in
set_option maxHeartbeats 4000000 in
theorem m_X3_gatherBlown {h : jH} {o : Nat} {w : hw} {f k b p g z : Nat → Nat} (hC : HC h o w f k b p g z) (hV : HV w f k b p g) (ok : g_ok w) : jM yX3_gatherBlown cX3_gatherBlown 2 (none : Option Jvm.ClassFile.FieldType) 2 none [.ref o] h (fun v h' => v = none ∧ ∃ z' : Nat → Nat, h' = h.set (o + 6) (jN 8 z') ∧ ∀ i, i < w 2 → z' i = s_blown w i (w 3)) := by
  refine jM.ofF (by decide +kernel) rfl (Nat.le_of_ble_eq_true rfl) (fun X hX hI => ?_)
  show jV cX3_gatherBlown RX3 2 X none 0 [some (.ref o), none] [] h
  refine e_iconst (nI 0) dX3_gatherBlown_0 (by decide) ?_
  refine e_is1 dX3_gatherBlown_1 rfl ?_
  rw [← jset_same hC.2.2.2.2.2.2]
  exact lp_X3_gather1 hC hV ok hX (w 2 + 1) 0 z (by omega) (by omega) (fun j hj => absurd hj (by omega))
set_option maxRecDepth 100000 in
set_option maxHeartbeats 4000000 in
theorem m_X3_burnt {h : jH} {o : Nat} {w : hw} {f k b p g z : Nat → Nat} (hC : HC h o w f k b p g z) {x y u : Nat} (hx : x < 1000) (hy : y < 1000) (hu : u < 1000) (ht : w 1 < 1000) : jM yX3_burnt cX3_burnt 4 (some .int) 0 none [.ref o, .int (nI x), .int (nI y), .int (nI u)] h (jRt (.int (nI (if 0 < x then x - 1 + y else if w 1 ≤ y then y else if 10 ≤ u then 1 else 0))) h) := by
  refine jM.ofF (by decide +kernel) rfl (Nat.le_of_ble_eq_true rfl) (fun X hX hI => ?_)
  show jV cX3_burnt RX3 0 X none 0 [some (.ref o), some (.int (nI x)), some (.int (nI y)), some (.int (nI u))] [] h
  refine e_il1 dX3_burnt_0 ?_
  refine e_if_leN 10 dX3_burnt_1 (by decide) (by omega) (fun c_1 => ?_) (fun c_1 => ?_)
  · refine e_il2 dX3_burnt_10 ?_
    refine e_al0 dX3_burnt_11 ?_
    refine e_get dX3_burnt_12 fX3_40 hC.1 rfl ?_
    refine e_ic_ltN 20 dX3_burnt_15 (by decide) (by omega) (by omega) (fun c_15 => ?_) (fun c_15 => ?_)
    · refine e_il3 dX3_burnt_20 ?_
      refine e_bipush (nI 10) dX3_burnt_21 (by decide) ?_
      refine e_ic_ltN 30 dX3_burnt_23 (by decide) (by omega) (by omega) (fun c_23 => ?_) (fun c_23 => ?_)
      · refine e_iconst (nI 0) dX3_burnt_30 (by decide) ?_
        exact e_iret hX dX3_burnt_31 (by refine jRt_e (congrArg nI ?_); (repeat' split) <;> omega) (fun z => z)
      · refine e_iconst (nI 1) dX3_burnt_26 (by decide) ?_
        refine e_goto 31 dX3_burnt_27 (by decide) ?_
        exact e_iret hX dX3_burnt_31 (by refine jRt_e (congrArg nI ?_); (repeat' split) <;> omega) (fun z => z)
    · refine e_il2 dX3_burnt_18 ?_
      exact e_iret hX dX3_burnt_19 (by refine jRt_e (congrArg nI ?_); (repeat' split) <;> omega) (fun z => z)
  · refine e_il1 dX3_burnt_4 ?_
    refine e_iconst (nI 1) dX3_burnt_5 (by decide) ?_
    refine e_isubN dX3_burnt_6 (by omega) ?_
    refine e_il2 dX3_burnt_7 ?_
    refine e_iaddN dX3_burnt_8 ?_
    exact e_iret hX dX3_burnt_9 (by refine jRt_e (congrArg nI ?_); (repeat' split) <;> omega) (fun z => z)
def s_brn (T H : Nat) (F Z : Nat → Nat) (i : Nat) : Nat := min 99 (if 0 < F i then F i - 1 + Z i else if T ≤ Z i then Z i else if (0 < i ∧ 10 ≤ F (i - 1)) ∨ (i + 1 < H ∧ 10 ≤ F (i + 1)) then 1 else 0)
theorem s_brn_eq {T H i L Rr : Nat} {F Z : Nat → Nat} (hL : L = if i = 0 then 0 else F (i - 1)) (hR : Rr = if i + 1 < H then F (i + 1) else 0) : min (if 0 < F i then F i - 1 + Z i else if T ≤ Z i then Z i else if 10 ≤ max L Rr then 1 else 0) 99 = s_brn T H F Z i := by
  unfold s_brn
  rw [Nat.min_comm]
  congr 1
  by_cases c1 : 0 < F i
  · rw [if_pos c1, if_pos c1]
  · rw [if_neg c1, if_neg c1]
    by_cases c2 : T ≤ Z i
    · rw [if_pos c2, if_pos c2]
    · rw [if_neg c2, if_neg c2]
      have hc : 10 ≤ max L Rr ↔ (0 < i ∧ 10 ≤ F (i - 1)) ∨ (i + 1 < H ∧ 10 ≤ F (i + 1)) := by
        rw [hL, hR]
        by_cases a : i = 0
        · rw [if_pos a]
          by_cases b : i + 1 < H
          · rw [if_pos b]; omega
          · rw [if_neg b]; omega
        · rw [if_neg a]
          by_cases b : i + 1 < H
          · rw [if_pos b]; omega
          · rw [if_neg b]; omega
      by_cases c3 : 10 ≤ max L Rr
      · rw [if_pos c3, if_pos (hc.mp c3)]
      · rw [if_neg c3, if_neg (fun q => c3 (hc.mpr q))]
set_option maxRecDepth 100000 in
set_option maxHeartbeats 4000000 in
theorem lp_X3_burnAll {h : jH} {o : Nat} {w : hw} {f k b p g z : Nat → Nat} (hC : HC h o w f k b p g z) (h2 : w 2 ≤ 8) (h1 : w 1 ≤ 9) {F Z : Nat → Nat} (hF : ∀ i, i < w 2 → F i ≤ 99) (hZ : ∀ i, i < w 2 → z i = Z i ∧ Z i ≤ 28) {X : jX} (hX : jRet X none none (fun v h' => v = none ∧ ∃ f' : Nat → Nat, h' = h.set (o + 1) (jN 8 f') ∧ ∀ i, i < w 2 → f' i = s_brn (w 1) (w 2) F Z i)) : ∀ (n i l : Nat) (f' : Nat → Nat), w 2 - i < n → i ≤ w 2 → l = (if i = 0 then 0 else F (i - 1)) → (∀ j, j < w 2 → f' j = if j < i then s_brn (w 1) (w 2) F Z j else F j) → ∀ l3 l4, jV cX3_burnAll RX3 1 X none 4 [some (.ref o), some (.int (nI l)), some (.int (nI i)), l3, l4] [] (h.set (o + 1) (jN 8 f')) := by
  intro n
  induction n with
  | zero => intros; omega
  | succ n ih =>
    intro i l f' hm hi hl hf l3 l4
    have hl9 : l ≤ 99 := by
      rw [hl]
      by_cases q : i = 0
      · rw [if_pos q]; omega
      · rw [if_neg q]; exact hF _ (by omega)
    have hC1 := hC.setf (f' := f')
    refine e_il2 dX3_burnAll_4 ?_
    refine e_al0 dX3_burnAll_5 ?_
    refine e_get dX3_burnAll_6 fX3_30 hC1.1 rfl ?_
    refine e_ic_geN 79 dX3_burnAll_9 (by decide) (by omega) (by omega) (fun c_9 => ?_) (fun c_9 => ?_)
    · exact e_ret hX dX3_burnAll_79 (⟨rfl, f', rfl, fun j hj => by rw [hf j hj, if_pos (by omega)]⟩) (fun z => z)
    · have hFi := hF i (by omega)
      have hZi := hZ i (by omega)
      have hfi : f' i = F i := by rw [hf i (by omega), if_neg (by omega)]
      have hfe : i + 1 < w 2 → f' (i + 1) = F (i + 1) := fun q => by rw [hf _ q, if_neg (by omega)]
      have hFe := hF (i + 1)
      refine e_al0 dX3_burnAll_12 ?_
      refine e_get dX3_burnAll_13 fX3_11 hC1.1 rfl ?_
      refine e_il2 dX3_burnAll_16 ?_
      refine e_ialdN dX3_burnAll_17 hC1.2.1 (by omega) (by decide) ?_
      refine e_is3 dX3_burnAll_18 rfl ?_
      refine e_il2 dX3_burnAll_19 ?_
      refine e_iconst (nI 1) dX3_burnAll_20 (by decide) ?_
      refine e_iaddN dX3_burnAll_21 ?_
      refine e_al0 dX3_burnAll_22 ?_
      refine e_get dX3_burnAll_23 fX3_30 hC1.1 rfl ?_
      refine e_ic_geN 40 dX3_burnAll_26 (by decide) (by omega) (by omega) (fun c_26 => ?_) (fun c_26 => ?_)
      · refine e_iconst (nI 0) dX3_burnAll_40 (by decide) ?_
        refine e_is4 dX3_burnAll_41 rfl ?_
        refine e_al0 dX3_burnAll_43 ?_
        refine e_get dX3_burnAll_44 fX3_11 hC1.1 rfl ?_
        refine e_il2 dX3_burnAll_47 ?_
        refine e_al0 dX3_burnAll_48 ?_
        refine e_il3 dX3_burnAll_49 ?_
        refine e_al0 dX3_burnAll_50 ?_
        refine e_get dX3_burnAll_51 fX3_27 hC1.1 rfl ?_
        refine e_il2 dX3_burnAll_54 ?_
        refine e_ialdN dX3_burnAll_55 hC1.2.2.2.2.2.2 (by omega) (by decide) ?_
        refine e_il1 dX3_burnAll_56 ?_
        refine e_il4 dX3_burnAll_57 ?_
        refine e_cs dX3_burnAll_59 sX3_84 (m_maxN (by omega) (by omega)) (by decide) rfl rfl (Nat.le_of_ble_eq_true rfl) jBud0 ?_
        rintro _ _ ⟨rfl, rfl⟩
        refine e_cv dX3_burnAll_62 vX3_87 (m_X3_burnt hC1 (by omega) (by omega) (by omega) (by omega)) (by decide) rfl rfl (Nat.le_of_ble_eq_true rfl) jBud0 rfl hC1.1 ?_
        rintro _ _ ⟨rfl, rfl⟩
        generalize hq : (if 0 < f' i then f' i - 1 + z i else if w 1 ≤ z i then z i else if 10 ≤ _ then 1 else 0) = q
        have hq8 : q < 1000 := by
          rw [← hq]
          repeat' split
          all_goals omega
        refine e_bipush (nI 99) dX3_burnAll_65 (by decide) ?_
        refine e_cs dX3_burnAll_67 sX3_72 (m_minN (by omega) (by omega)) (by decide) rfl rfl (Nat.le_of_ble_eq_true rfl) jBud0 ?_
        rintro _ _ ⟨rfl, rfl⟩
        refine e_iastN dX3_burnAll_70 hC1.2.1 (by omega) (by decide) ?_
        rw [List.set_set]
        refine e_il3 dX3_burnAll_71 ?_
        refine e_is1 dX3_burnAll_72 rfl ?_
        refine e_inc2N dX3_burnAll_73 rfl ?_
        refine e_goto 4 dX3_burnAll_76 (by decide) ?_
        refine ih (i + 1) (f' i) _ (by omega) (by omega) (by rw [if_neg (by omega), Nat.add_sub_cancel, hfi]) (fun j hj => ?_) _ _
        unfold va_up
        by_cases q2 : j = i
        · rw [if_pos q2, if_pos (by omega), q2, ← hq, hfi, hZi.1]
          refine s_brn_eq hl ?_
          first
          | rw [if_pos (by omega), hfe (by omega)]
          | rw [if_neg (by omega)]
        · rw [if_neg q2, hf j hj]
          by_cases q3 : j < i
          · rw [if_pos q3, if_pos (by omega)]
          · rw [if_neg q3, if_neg (by omega)]
      · refine e_al0 dX3_burnAll_29 ?_
        refine e_get dX3_burnAll_30 fX3_11 hC1.1 rfl ?_
        refine e_il2 dX3_burnAll_33 ?_
        refine e_iconst (nI 1) dX3_burnAll_34 (by decide) ?_
        refine e_iaddN dX3_burnAll_35 ?_
        refine e_ialdN dX3_burnAll_36 hC1.2.1 (by omega) (by decide) ?_
        refine e_goto 41 dX3_burnAll_37 (by decide) ?_
        refine e_is4 dX3_burnAll_41 rfl ?_
        refine e_al0 dX3_burnAll_43 ?_
        refine e_get dX3_burnAll_44 fX3_11 hC1.1 rfl ?_
        refine e_il2 dX3_burnAll_47 ?_
        refine e_al0 dX3_burnAll_48 ?_
        refine e_il3 dX3_burnAll_49 ?_
        refine e_al0 dX3_burnAll_50 ?_
        refine e_get dX3_burnAll_51 fX3_27 hC1.1 rfl ?_
        refine e_il2 dX3_burnAll_54 ?_
        refine e_ialdN dX3_burnAll_55 hC1.2.2.2.2.2.2 (by omega) (by decide) ?_
        refine e_il1 dX3_burnAll_56 ?_
        refine e_il4 dX3_burnAll_57 ?_
        refine e_cs dX3_burnAll_59 sX3_84 (m_maxN (by omega) (by omega)) (by decide) rfl rfl (Nat.le_of_ble_eq_true rfl) jBud0 ?_
        rintro _ _ ⟨rfl, rfl⟩
        refine e_cv dX3_burnAll_62 vX3_87 (m_X3_burnt hC1 (by omega) (by omega) (by omega) (by omega)) (by decide) rfl rfl (Nat.le_of_ble_eq_true rfl) jBud0 rfl hC1.1 ?_
        rintro _ _ ⟨rfl, rfl⟩
        generalize hq : (if 0 < f' i then f' i - 1 + z i else if w 1 ≤ z i then z i else if 10 ≤ _ then 1 else 0) = q
        have hq8 : q < 1000 := by
          rw [← hq]
          repeat' split
          all_goals omega
        refine e_bipush (nI 99) dX3_burnAll_65 (by decide) ?_
        refine e_cs dX3_burnAll_67 sX3_72 (m_minN (by omega) (by omega)) (by decide) rfl rfl (Nat.le_of_ble_eq_true rfl) jBud0 ?_
        rintro _ _ ⟨rfl, rfl⟩
        refine e_iastN dX3_burnAll_70 hC1.2.1 (by omega) (by decide) ?_
        rw [List.set_set]
        refine e_il3 dX3_burnAll_71 ?_
        refine e_is1 dX3_burnAll_72 rfl ?_
        refine e_inc2N dX3_burnAll_73 rfl ?_
        refine e_goto 4 dX3_burnAll_76 (by decide) ?_
        refine ih (i + 1) (f' i) _ (by omega) (by omega) (by rw [if_neg (by omega), Nat.add_sub_cancel, hfi]) (fun j hj => ?_) _ _
        unfold va_up
        by_cases q2 : j = i
        · rw [if_pos q2, if_pos (by omega), q2, ← hq, hfi, hZi.1]
          refine s_brn_eq hl ?_
          first
          | rw [if_pos (by omega), hfe (by omega)]
          | rw [if_neg (by omega)]
        · rw [if_neg q2, hf j hj]
          by_cases q3 : j < i
          · rw [if_pos q3, if_pos (by omega)]
          · rw [if_neg q3, if_neg (by omega)]
set_option maxRecDepth 100000 in
set_option maxHeartbeats 4000000 in
theorem m_X3_burnAll {h : jH} {o : Nat} {w : hw} {f k b p g z : Nat → Nat} (hC : HC h o w f k b p g z) (h2 : w 2 ≤ 8) (h1 : w 1 ≤ 9) {F Z : Nat → Nat} (hF : ∀ i, i < w 2 → F i ≤ 99) (hZ : ∀ i, i < w 2 → z i = Z i ∧ Z i ≤ 28) (hf : ∀ i, i < w 2 → f i = F i) : jM yX3_burnAll cX3_burnAll 5 (none : Option Jvm.ClassFile.FieldType) 1 none [.ref o] h (fun v h' => v = none ∧ ∃ f' : Nat → Nat, h' = h.set (o + 1) (jN 8 f') ∧ ∀ i, i < w 2 → f' i = s_brn (w 1) (w 2) F Z i) := by
  refine jM.ofF (by decide +kernel) rfl (Nat.le_of_ble_eq_true rfl) (fun X hX hI => ?_)
  show jV cX3_burnAll RX3 1 X none 0 [some (.ref o), none, none, none, none] [] h
  refine e_iconst (nI 0) dX3_burnAll_0 (by decide) ?_
  refine e_is1 dX3_burnAll_1 rfl ?_
  refine e_iconst (nI 0) dX3_burnAll_2 (by decide) ?_
  refine e_is2 dX3_burnAll_3 rfl ?_
  rw [← jset_same hC.2.1]
  exact lp_X3_burnAll hC h2 h1 hF hZ hX (w 2 + 1) 0 0 f (by omega) (by omega) rfl (fun j hj => by rw [if_neg (by omega), hf j hj]) _ _
