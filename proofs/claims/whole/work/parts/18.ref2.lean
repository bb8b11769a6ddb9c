set_option maxRecDepth 100000 in
set_option maxHeartbeats 4000000 in
theorem lp_X7_litOf {h : jH} {a : Nat} {w : hw} (hW : h[a]? = some (jN 41 w)) (ok : g_ok w) {X : jX} (hX : jRet X (some .int) none (jRt (.int (nI (s_lit w (w 2)))) h)) : ∀ (n i acc : Nat), w 2 - i < n → i ≤ w 2 → acc = s_lit w i → jV cX7_litOf RX7 0 X none 4 [some (.ref a), some (.int (nI acc)), some (.int (nI i))] [] h := by
  intro n
  induction n with
  | zero => intros; omega
  | succ n ih =>
    intro i acc hm hi hacc
    obtain ⟨k0, k1, k2, k3, k4, k5⟩ := id ok
    refine e_il2 dX7_litOf_4 ?_
    refine e_al0 dX7_litOf_5 ?_
    refine e_iconst (nI 2) dX7_litOf_6 (by decide) ?_
    refine e_ialdN dX7_litOf_7 hW (by omega) (by decide) ?_
    refine e_ic_geN 35 dX7_litOf_8 (by decide) (by omega) (by omega) (fun c_8 => ?_) (fun c_8 => ?_)
    · refine e_il1 dX7_litOf_35 ?_
      exact e_iret hX dX7_litOf_36 (by rw [hacc, show i = w 2 by omega]; exact ⟨rfl, rfl⟩) (fun z => z)
    · have k4i := k4 i (by omega)
      refine e_il1 dX7_litOf_11 ?_
      refine e_al0 dX7_litOf_12 ?_
      refine e_iconst (nI 5) dX7_litOf_13 (by decide) ?_
      refine e_il2 dX7_litOf_14 ?_
      refine e_iaddN dX7_litOf_15 ?_
      refine e_ialdN dX7_litOf_16 hW (by omega) (by decide) ?_
      refine e_if_leN 26 dX7_litOf_17 (by decide) (by omega) (fun c_17 => ?_) (fun c_17 => ?_)
      · refine e_iconst (nI 0) dX7_litOf_26 (by decide) ?_
        refine e_iorN dX7_litOf_27 ?_
        refine e_is1 dX7_litOf_28 rfl ?_
        refine e_inc2N dX7_litOf_29 rfl ?_
        refine e_goto 4 dX7_litOf_32 (by decide) ?_
        exact ih (i + 1) _ (by omega) (by omega) (by first | (rw [s_lit, if_pos (by omega), hacc, Nat.one_mul]) | (rw [s_lit, if_neg (by omega), hacc]))
      · refine e_iconst (nI 1) dX7_litOf_20 (by decide) ?_
        refine e_il2 dX7_litOf_21 ?_
        refine e_ishlN dX7_litOf_22 (by omega) (n_p8 (by omega)) ?_
        refine e_goto 27 dX7_litOf_23 (by decide) ?_
        refine e_iorN dX7_litOf_27 ?_
        refine e_is1 dX7_litOf_28 rfl ?_
        refine e_inc2N dX7_litOf_29 rfl ?_
        refine e_goto 4 dX7_litOf_32 (by decide) ?_
        exact ih (i + 1) _ (by omega) (by omega) (by first | (rw [s_lit, if_pos (by omega), hacc, Nat.one_mul]) | (rw [s_lit, if_neg (by omega), hacc]))
set_option maxRecDepth 100000 in
set_option maxHeartbeats 4000000 in
theorem m_X7_litOf {h : jH} {a : Nat} {w : hw} (hW : h[a]? = some (jN 41 w)) (ok : g_ok w) : jM yX7_litOf cX7_litOf 3 (some .int) 0 none [.ref a] h (jRt (.int (nI (s_lit w (w 2)))) h) := by
  refine jM.ofF (by decide +kernel) rfl (Nat.le_of_ble_eq_true rfl) (fun X hX hI => ?_)
  show jV cX7_litOf RX7 0 X none 0 [some (.ref a), none, none] [] h
  refine e_iconst (nI 0) dX7_litOf_0 (by decide) ?_
  refine e_is1 dX7_litOf_1 rfl ?_
  refine e_iconst (nI 0) dX7_litOf_2 (by decide) ?_
  refine e_is2 dX7_litOf_3 rfl ?_
  exact lp_X7_litOf hW ok hX (w 2 + 1) 0 0 (by omega) (by omega) rfl
set_option maxRecDepth 100000 in
set_option maxHeartbeats 4000000 in
theorem lp_X7_pegsOf {h : jH} {a : Nat} {w : hw} (hW : h[a]? = some (jN 41 w)) (ok : g_ok w) {X : jX} (hX : jRet X (some .int) none (jRt (.int (nI (s_pegs w (w 3)))) h)) : ∀ (n i acc : Nat), w 3 - i < n → i ≤ w 3 → acc = s_pegs w i → jV cX7_pegsOf RX7 0 X none 4 [some (.ref a), some (.int (nI acc)), some (.int (nI i))] [] h := by
  intro n
  induction n with
  | zero => intros; omega
  | succ n ih =>
    intro i acc hm hi hacc
    obtain ⟨k0, k1, k2, k3, k4, k5⟩ := id ok
    refine e_il2 dX7_pegsOf_4 ?_
    refine e_al0 dX7_pegsOf_5 ?_
    refine e_iconst (nI 3) dX7_pegsOf_6 (by decide) ?_
    refine e_ialdN dX7_pegsOf_7 hW (by omega) (by decide) ?_
    refine e_ic_geN 32 dX7_pegsOf_8 (by decide) (by omega) (by omega) (fun c_8 => ?_) (fun c_8 => ?_)
    · refine e_il1 dX7_pegsOf_32 ?_
      exact e_iret hX dX7_pegsOf_33 (by rw [hacc, show i = w 3 by omega]; exact ⟨rfl, rfl⟩) (fun z => z)
    · have k5i := k5 i (by omega)
      refine e_il1 dX7_pegsOf_11 ?_
      refine e_al0 dX7_pegsOf_12 ?_
      refine e_bipush (nI 13) dX7_pegsOf_13 (by decide) ?_
      refine e_iconst (nI 4) dX7_pegsOf_15 (by decide) ?_
      refine e_il2 dX7_pegsOf_16 ?_
      refine e_imulN dX7_pegsOf_17 ?_
      refine e_iaddN dX7_pegsOf_18 ?_
      refine e_iconst (nI 3) dX7_pegsOf_19 (by decide) ?_
      refine e_iaddN dX7_pegsOf_20 ?_
      refine e_ialdN dX7_pegsOf_21 hW (by omega) (by decide) ?_
      refine e_il2 dX7_pegsOf_22 ?_
      refine e_ishlN dX7_pegsOf_23 (by omega) (Nat.lt_of_le_of_lt (Nat.mul_le_mul_right _ (show w (13 + 4 * i + 3) ≤ 1 by omega)) (n_p8 (by omega))) ?_
      refine e_iorN dX7_pegsOf_24 ?_
      refine e_is1 dX7_pegsOf_25 rfl ?_
      refine e_inc2N dX7_pegsOf_26 rfl ?_
      refine e_goto 4 dX7_pegsOf_29 (by decide) ?_
      exact ih (i + 1) _ (by omega) (by omega) (by rw [s_pegs, hacc])
set_option maxRecDepth 100000 in
set_option maxHeartbeats 4000000 in
theorem m_X7_pegsOf {h : jH} {a : Nat} {w : hw} (hW : h[a]? = some (jN 41 w)) (ok : g_ok w) : jM yX7_pegsOf cX7_pegsOf 3 (some .int) 0 none [.ref a] h (jRt (.int (nI (s_pegs w (w 3)))) h) := by
  refine jM.ofF (by decide +kernel) rfl (Nat.le_of_ble_eq_true rfl) (fun X hX hI => ?_)
  show jV cX7_pegsOf RX7 0 X none 0 [some (.ref a), none, none] [] h
  refine e_iconst (nI 0) dX7_pegsOf_0 (by decide) ?_
  refine e_is1 dX7_pegsOf_1 rfl ?_
  refine e_iconst (nI 0) dX7_pegsOf_2 (by decide) ?_
  refine e_is2 dX7_pegsOf_3 rfl ?_
  exact lp_X7_pegsOf hW ok hX (w 3 + 1) 0 0 (by omega) (by omega) rfl
set_option maxRecDepth 100000 in
set_option maxHeartbeats 4000000 in
theorem m_X7_isHot {h : jH} {s : Nat → Int32} (hO : RO h s) {a : Nat} {w : hw} (hW : h[a]? = some (jN 41 w)) {F : Nat → Nat} (hF : h[230]? = some (jN 8 F)) (h2 : 1 ≤ w 2) (h8 : w 2 ≤ 8) (hF9 : ∀ j, j < w 2 → F j ≤ 99) {i : Nat} (hi : i ≤ 8) : jM yX7_isHot cX7_isHot 3 (some .boolean) 1 none [.ref 218, .ref a, .int (nI i)] h (jRt (.int (jb (i < w 2 ∧ 10 ≤ F i))) h) := by
  refine jM.ofF (by decide +kernel) rfl (Nat.le_of_ble_eq_true rfl) (fun X hX hI => ?_)
  show jV cX7_isHot RX7 1 X none 0 [some (.ref 218), some (.ref a), some (.int (nI i))] [] h
  refine e_il2 dX7_isHot_0 ?_
  refine e_iconst (nI 0) dX7_isHot_1 (by decide) ?_
  refine e_al1 dX7_isHot_2 ?_
  refine e_iconst (nI 2) dX7_isHot_3 (by decide) ?_
  refine e_ialdN dX7_isHot_4 hW (by omega) (by decide) ?_
  refine e_iconst (nI 1) dX7_isHot_5 (by decide) ?_
  refine e_isubN dX7_isHot_6 (by omega) ?_
  refine e_cs dX7_isHot_7 sX7_65 (m_inN (by omega) (by omega) (by omega)) (by decide) rfl rfl (Nat.le_of_ble_eq_true rfl) jBud0 ?_
  rintro _ _ ⟨rfl, rfl⟩
  refine e_if_eqB 28 dX7_isHot_10 (by decide) (fun c_10 => ?_) (fun c_10 => ?_)
  · refine e_iconst (nI 0) dX7_isHot_28 (by decide) ?_
    exact e_zret hX dX7_isHot_29 rfl (by first | exact jRt_t (by omega) | exact jRt_f (by omega)) (fun z => z)
  · have := hF9 i (by omega)
    refine e_al0 dX7_isHot_13 ?_
    refine e_get dX7_isHot_14 fX7_44 hO rfl ?_
    refine e_il2 dX7_isHot_17 ?_
    refine e_ialdN dX7_isHot_18 hF (by omega) (by decide) ?_
    refine e_bipush (nI 9) dX7_isHot_19 (by decide) ?_
    refine e_ic_leN 28 dX7_isHot_21 (by decide) (by omega) (by omega) (fun c_21 => ?_) (fun c_21 => ?_)
    · refine e_iconst (nI 0) dX7_isHot_28 (by decide) ?_
      exact e_zret hX dX7_isHot_29 rfl (by first | exact jRt_t (by omega) | exact jRt_f (by omega)) (fun z => z)
    · refine e_iconst (nI 1) dX7_isHot_24 (by decide) ?_
      refine e_goto 29 dX7_isHot_25 (by decide) ?_
      exact e_zret hX dX7_isHot_29 rfl (by first | exact jRt_t (by omega) | exact jRt_f (by omega)) (fun z => z)
set_option maxRecDepth 100000 in
set_option maxHeartbeats 4000000 in
theorem m_X7_isHot0 {h : jH} {s : Nat → Int32} (hO : RO h s) {a : Nat} {w : hw} (hW : h[a]? = some (jN 41 w)) {F : Nat → Nat} (hF : h[230]? = some (jN 8 F)) (h2 : 1 ≤ w 2) (h8 : w 2 ≤ 8) (hF9 : ∀ j, j < w 2 → F j ≤ 99) : jM yX7_isHot cX7_isHot 3 (some .boolean) 1 none [.ref 218, .ref a, .int (nI 0 - nI 1)] h (jRt (.int (jb False)) h) := by
  refine jM.ofF (by decide +kernel) rfl (Nat.le_of_ble_eq_true rfl) (fun X hX hI => ?_)
  show jV cX7_isHot RX7 1 X none 0 [some (.ref 218), some (.ref a), some (.int (nI 0 - nI 1))] [] h
  refine e_il2 dX7_isHot_0 ?_
  refine e_iconst (nI 0) dX7_isHot_1 (by decide) ?_
  refine e_al1 dX7_isHot_2 ?_
  refine e_iconst (nI 2) dX7_isHot_3 (by decide) ?_
  refine e_ialdN dX7_isHot_4 hW (by omega) (by decide) ?_
  refine e_iconst (nI 1) dX7_isHot_5 (by decide) ?_
  refine e_isubN dX7_isHot_6 (by omega) ?_
  refine e_cs dX7_isHot_7 sX7_65 (m_X7_in) (by decide) rfl rfl (Nat.le_of_ble_eq_true rfl) jBud0 ?_
  rintro _ _ ⟨rfl, rfl⟩
  refine e_if_eqB 28 dX7_isHot_10 (by decide) (fun c_10 => ?_) (fun c_10 => ?_)
  · refine e_iconst (nI 0) dX7_isHot_28 (by decide) ?_
    exact e_zret hX dX7_isHot_29 rfl (jRt_f (fun q => q)) (fun z => z)
  · exact absurd c_10.1 (by decide)
theorem m_X7_isHotP {h : jH} {s : Nat → Int32} (hO : RO h s) {a : Nat} {w : hw} (hW : h[a]? = some (jN 41 w)) {F : Nat → Nat} (hF : h[230]? = some (jN 8 F)) (h2 : 1 ≤ w 2) (h8 : w 2 ≤ 8) (hF9 : ∀ j, j < w 2 → F j ≤ 99) {i : Nat} (hi : i ≤ 8) : jM yX7_isHot cX7_isHot 3 (some .boolean) 1 none [.ref 218, .ref a, .int (nI i - nI 1)] h (jRt (.int (jb (0 < i ∧ i - 1 < w 2 ∧ 10 ≤ F (i - 1)))) h) := by
  rcases i with _ | i
  · rw [jb_iff (Q := False) ⟨fun q => absurd q.1 (by omega), fun q => q.elim⟩]
    exact m_X7_isHot0 hO hW hF h2 h8 hF9
  · rw [pk_sub (show 1 ≤ i + 1 by omega), Nat.add_sub_cancel, jb_iff (Q := i < w 2 ∧ 10 ≤ F i) ⟨fun q => q.2, fun q => ⟨by omega, q⟩⟩]
    exact m_X7_isHot hO hW hF h2 h8 hF9 (by omega)
set_option maxRecDepth 100000 in
set_option maxHeartbeats 4000000 in
theorem m_X7_burns {h : jH} {s : Nat → Int32} (hO : RO h s) {a : Nat} {w : hw} (hW : h[a]? = some (jN 41 w)) {F : Nat → Nat} (hF : h[230]? = some (jN 8 F)) (h2 : 1 ≤ w 2) (h8 : w 2 ≤ 8) (hF9 : ∀ j, j < w 2 → F j ≤ 99) {Z : Nat → Nat} (hZ : h[231]? = some (jN 8 Z)) (hZ9 : ∀ j, j < w 2 → Z j ≤ 28) (h1 : w 1 ≤ 9) {i : Nat} (hi : i < w 2) : jM yX7_burns cX7_burns 4 (none : Option Jvm.ClassFile.FieldType) 2 none [.ref 218, .ref a, .int (nI i)] h (fun v h' => v = none ∧ h' = h.set a (jN 41 (va_up w (5 + i) (s_brn (w 1) (w 2) F Z i)))) := by
  refine jM.ofF (by decide +kernel) rfl (Nat.le_of_ble_eq_true rfl) (fun X hX hI => ?_)
  show jV cX7_burns RX7 2 X none 0 [some (.ref 218), some (.ref a), some (.int (nI i)), none] [] h
  have hFi := hF9 i hi
  have hZi := hZ9 i hi
  refine e_iconst (nI 0) dX7_burns_0 (by decide) ?_
  refine e_is3 dX7_burns_1 rfl ?_
  refine e_al0 dX7_burns_2 ?_
  refine e_get dX7_burns_3 fX7_44 hO rfl ?_
  refine e_il2 dX7_burns_6 ?_
  refine e_ialdN dX7_burns_7 hF (by omega) (by decide) ?_
  refine e_if_leN 30 dX7_burns_8 (by decide) (by omega) (fun c_8 => ?_) (fun c_8 => ?_)
  · refine e_al0 dX7_burns_30 ?_
    refine e_get dX7_burns_31 fX7_47 hO rfl ?_
    refine e_il2 dX7_burns_34 ?_
    refine e_ialdN dX7_burns_35 hZ (by omega) (by decide) ?_
    refine e_al1 dX7_burns_36 ?_
    refine e_iconst (nI 1) dX7_burns_37 (by decide) ?_
    refine e_ialdN dX7_burns_38 hW (by omega) (by decide) ?_
    refine e_ic_ltN 52 dX7_burns_39 (by decide) (by omega) (by omega) (fun c_39 => ?_) (fun c_39 => ?_)
    · refine e_al0 dX7_burns_52 ?_
      refine e_al1 dX7_burns_53 ?_
      refine e_il2 dX7_burns_54 ?_
      refine e_iconst (nI 1) dX7_burns_55 (by decide) ?_
      refine e_isub dX7_burns_56 ?_
      refine e_cv dX7_burns_57 vX7_169 (m_X7_isHotP hO hW hF h2 h8 hF9 (by omega)) (by decide) rfl rfl (Nat.le_of_ble_eq_true rfl) jBud0 rfl hO ?_
      rintro _ _ ⟨rfl, rfl⟩
      refine e_if_neB 74 dX7_burns_60 (by decide) (fun c_60 => ?_) (fun c_60 => ?_)
      · refine e_iconst (nI 1) dX7_burns_74 (by decide) ?_
        refine e_is3 dX7_burns_75 rfl ?_
        refine e_al1 dX7_burns_76 ?_
        refine e_iconst (nI 5) dX7_burns_77 (by decide) ?_
        refine e_il2 dX7_burns_78 ?_
        refine e_iaddN dX7_burns_79 ?_
        refine e_bipush (nI 99) dX7_burns_80 (by decide) ?_
        refine e_il3 dX7_burns_82 ?_
        refine e_cs dX7_burns_83 sX7_158 (m_X7_lesser (by omega) (by omega)) (by decide) rfl rfl (Nat.le_of_ble_eq_true rfl) jBud0 ?_
        rintro _ _ ⟨rfl, rfl⟩
        refine e_iastN dX7_burns_86 hW (by omega) (by decide) ?_
        exact e_ret hX dX7_burns_87 (⟨rfl, by congr 3; unfold s_brn; congr 1; (repeat' split) <;> omega⟩) (fun z => z)
      · refine e_al0 dX7_burns_63 ?_
        refine e_al1 dX7_burns_64 ?_
        refine e_il2 dX7_burns_65 ?_
        refine e_iconst (nI 1) dX7_burns_66 (by decide) ?_
        refine e_iaddN dX7_burns_67 ?_
        refine e_cv dX7_burns_68 vX7_169 (m_X7_isHot hO hW hF h2 h8 hF9 (i := i + 1) (by omega)) (by decide) rfl rfl (Nat.le_of_ble_eq_true rfl) jBud0 rfl hO ?_
        rintro _ _ ⟨rfl, rfl⟩
        refine e_if_eqB 76 dX7_burns_71 (by decide) (fun c_71 => ?_) (fun c_71 => ?_)
        · refine e_al1 dX7_burns_76 ?_
          refine e_iconst (nI 5) dX7_burns_77 (by decide) ?_
          refine e_il2 dX7_burns_78 ?_
          refine e_iaddN dX7_burns_79 ?_
          refine e_bipush (nI 99) dX7_burns_80 (by decide) ?_
          refine e_il3 dX7_burns_82 ?_
          refine e_cs dX7_burns_83 sX7_158 (m_X7_lesser (by omega) (by omega)) (by decide) rfl rfl (Nat.le_of_ble_eq_true rfl) jBud0 ?_
          rintro _ _ ⟨rfl, rfl⟩
          refine e_iastN dX7_burns_86 hW (by omega) (by decide) ?_
          exact e_ret hX dX7_burns_87 (⟨rfl, by congr 3; unfold s_brn; congr 1; (repeat' split) <;> omega⟩) (fun z => z)
        · refine e_iconst (nI 1) dX7_burns_74 (by decide) ?_
          refine e_is3 dX7_burns_75 rfl ?_
          refine e_al1 dX7_burns_76 ?_
          refine e_iconst (nI 5) dX7_burns_77 (by decide) ?_
          refine e_il2 dX7_burns_78 ?_
          refine e_iaddN dX7_burns_79 ?_
          refine e_bipush (nI 99) dX7_burns_80 (by decide) ?_
          refine e_il3 dX7_burns_82 ?_
          refine e_cs dX7_burns_83 sX7_158 (m_X7_lesser (by omega) (by omega)) (by decide) rfl rfl (Nat.le_of_ble_eq_true rfl) jBud0 ?_
          rintro _ _ ⟨rfl, rfl⟩
          refine e_iastN dX7_burns_86 hW (by omega) (by decide) ?_
          exact e_ret hX dX7_burns_87 (⟨rfl, by congr 3; unfold s_brn; congr 1; (repeat' split) <;> omega⟩) (fun z => z)
    · refine e_al0 dX7_burns_42 ?_
      refine e_get dX7_burns_43 fX7_47 hO rfl ?_
      refine e_il2 dX7_burns_46 ?_
      refine e_ialdN dX7_burns_47 hZ (by omega) (by decide) ?_
      refine e_is3 dX7_burns_48 rfl ?_
      refine e_goto 76 dX7_burns_49 (by decide) ?_
      refine e_al1 dX7_burns_76 ?_
      refine e_iconst (nI 5) dX7_burns_77 (by decide) ?_
      refine e_il2 dX7_burns_78 ?_
      refine e_iaddN dX7_burns_79 ?_
      refine e_bipush (nI 99) dX7_burns_80 (by decide) ?_
      refine e_il3 dX7_burns_82 ?_
      refine e_cs dX7_burns_83 sX7_158 (m_X7_lesser (by omega) (by omega)) (by decide) rfl rfl (Nat.le_of_ble_eq_true rfl) jBud0 ?_
      rintro _ _ ⟨rfl, rfl⟩
      refine e_iastN dX7_burns_86 hW (by omega) (by decide) ?_
      exact e_ret hX dX7_burns_87 (⟨rfl, by congr 3; unfold s_brn; congr 1; (repeat' split) <;> omega⟩) (fun z => z)
  · refine e_al0 dX7_burns_11 ?_
    refine e_get dX7_burns_12 fX7_44 hO rfl ?_
    refine e_il2 dX7_burns_15 ?_
    refine e_ialdN dX7_burns_16 hF (by omega) (by decide) ?_
    refine e_iconst (nI 1) dX7_burns_17 (by decide) ?_
    refine e_isubN dX7_burns_18 (by omega) ?_
    refine e_al0 dX7_burns_19 ?_
    refine e_get dX7_burns_20 fX7_47 hO rfl ?_
    refine e_il2 dX7_burns_23 ?_
    refine e_ialdN dX7_burns_24 hZ (by omega) (by decide) ?_
    refine e_iaddN dX7_burns_25 ?_
    refine e_is3 dX7_burns_26 rfl ?_
    refine e_goto 76 dX7_burns_27 (by decide) ?_
    refine e_al1 dX7_burns_76 ?_
    refine e_iconst (nI 5) dX7_burns_77 (by decide) ?_
    refine e_il2 dX7_burns_78 ?_
    refine e_iaddN dX7_burns_79 ?_
    refine e_bipush (nI 99) dX7_burns_80 (by decide) ?_
    refine e_il3 dX7_burns_82 ?_
    refine e_cs dX7_burns_83 sX7_158 (m_X7_lesser (by omega) (by omega)) (by decide) rfl rfl (Nat.le_of_ble_eq_true rfl) jBud0 ?_
    rintro _ _ ⟨rfl, rfl⟩
    refine e_iastN dX7_burns_86 hW (by omega) (by decide) ?_
    exact e_ret hX dX7_burns_87 (⟨rfl, by congr 3; unfold s_brn; congr 1; (repeat' split) <;> omega⟩) (fun z => z)
set_option maxRecDepth 100000 in
set_option maxHeartbeats 4000000 in
theorem lp_X7_passes3 {h0 : jH} {a : Nat} {w : hw} (ha : a < 218 ∨ 218 < a) (ha2 : a < 230) (ok : g_ok w) (hd : w 4 < 2 ^ 30) {X : jX} (hX : jRet X (none) none (fun v h' => v = none ∧ h'[a]? = some (jN 41 (s_pass w)) ∧ (∃ F' Z' : Nat → Nat, h'[230]? = some (jN 8 F') ∧ h'[231]? = some (jN 8 Z')) ∧ jEq h0 h' (fun j => j = a ∨ j = 230 ∨ j = 231))) : ∀ (n i : Nat) (h : jH) (F Z : Nat → Nat) {s : Nat → Int32}, w 2 - i < n → i ≤ w 2 → RO h s → h[a]? = some (jN 41 (s_bn w i)) → h[230]? = some (jN 8 F) → h[231]? = some (jN 8 Z) → jEq h0 h (fun j => j = a ∨ j = 230 ∨ j = 231) → (∀ j, j < w 2 → F j = w (5 + j)) → (∀ j, j < w 2 → Z j = s_blown w j (w 3)) → ∀ l3 l4, jV cX7_passes RX7 3 X none 104 [some (.ref 218), some (.ref a), some (.int (nI i)), l3, l4] [] h := by
  intro n
  induction n with
  | zero => intros; omega
  | succ n ih =>
    intro i h F Z s hm hi hO hW hF hZ E hFv hZv l3 l4
    obtain ⟨k0, k1, k2, k3, k4, k5⟩ := id ok
    refine e_il2 dX7_passes_104 ?_
    refine e_al1 dX7_passes_105 ?_
    refine e_iconst (nI 2) dX7_passes_106 (by decide) ?_
    refine e_ialdN dX7_passes_107 hW (by omega) (by decide) ?_
    rw [s_bn_lo w i (by omega)]
    refine e_ic_geN 123 dX7_passes_108 (by decide) (by omega) (by omega) (fun c_108 => ?_) (fun c_108 => ?_)
    · refine e_al1 dX7_passes_123 ?_
      refine e_iconst (nI 4) dX7_passes_124 (by decide) ?_
      refine e_dup2 dX7_passes_125 rfl rfl ?_
      refine e_ialdN dX7_passes_126 hW (by omega) (by decide) ?_
      rw [s_bn_lo w i (by omega)]
      refine e_iconst (nI 1) dX7_passes_127 (by decide) ?_
      refine e_iaddN dX7_passes_128 ?_
      refine e_iastN dX7_passes_129 hW (by omega) (by decide) ?_
      refine e_abs (fun h1 hh => ?_)
      replace hO := jhs hh hO (by omega)
      replace hW := jhs_at hh hW
      replace hF := jhs hh hF (by omega)
      replace hZ := jhs hh hZ (by omega)
      replace E := jEq.hs hh E (Or.inl rfl)
      clear hh
      exact e_ret hX dX7_passes_130 (⟨rfl, by rw [hW, show i = w 2 by omega, s_bn_pass k2], ⟨F, Z, hF, hZ⟩, E⟩) (fun z => z)
    · refine e_al0 dX7_passes_111 ?_
      refine e_al1 dX7_passes_112 ?_
      refine e_il2 dX7_passes_113 ?_
      refine e_cv dX7_passes_114 vX7_176 (m_X7_burns hO hW hF (by rw [s_bn_lo w i (by omega)]; omega) (by rw [s_bn_lo w i (by omega)]; omega) (fun j hj => by rw [s_bn_lo w i (by omega)] at hj; rw [hFv j hj]; exact k4 j hj) hZ (fun j hj => by rw [s_bn_lo w i (by omega)] at hj; rw [hZv j hj]; exact Nat.le_trans (s_blown_le w j (w 3)) (by omega)) (by rw [s_bn_lo w i (by omega)]; omega) (i := i) (by rw [s_bn_lo w i (by omega)]; omega)) (by decide) rfl rfl (Nat.le_of_ble_eq_true rfl) jBud0 rfl hO ?_
      rintro _ h1 ⟨rfl, hh⟩
      replace hO := jhs hh hO (by omega)
      replace hW := jhs_at hh hW
      replace hF := jhs hh hF (by omega)
      replace hZ := jhs hh hZ (by omega)
      replace E := jEq.hs hh E (Or.inl rfl)
      rw [s_bn_lo w i (by omega), s_bn_lo w i (by omega), show s_brn (w 1) (w 2) F Z i = s_burn w i from by
        rw [← s_brn_w]; unfold s_brn; rw [hFv i (by omega), hZv i (by omega)]
        congr 1
        by_cases c1 : 0 < w (5 + i)
        · rw [if_pos c1, if_pos c1]
        · rw [if_neg c1, if_neg c1]
          by_cases c2 : w 1 ≤ s_blown w i (w 3)
          · rw [if_pos c2, if_pos c2]
          · rw [if_neg c2, if_neg c2]
            have e : ((0 < i ∧ 10 ≤ F (i - 1)) ∨ (i + 1 < w 2 ∧ 10 ≤ F (i + 1))) ↔ ((0 < i ∧ 10 ≤ w (5 + (i - 1))) ∨ (i + 1 < w 2 ∧ 10 ≤ w (5 + (i + 1)))) := by
              refine or_congr ?_ ?_
              · exact ⟨fun q => ⟨q.1, by rw [← hFv (i - 1) (by omega)]; exact q.2⟩, fun q => ⟨q.1, by rw [hFv (i - 1) (by omega)]; exact q.2⟩⟩
              · exact ⟨fun q => ⟨q.1, by rw [← hFv (i + 1) q.1]; exact q.2⟩, fun q => ⟨q.1, by rw [hFv (i + 1) q.1]; exact q.2⟩⟩
            by_cases c3 : (0 < i ∧ 10 ≤ F (i - 1)) ∨ (i + 1 < w 2 ∧ 10 ≤ F (i + 1))
            · rw [if_pos c3, if_pos (e.mp c3)]
            · rw [if_neg c3, if_neg (fun q => c3 (e.mpr q))], s_bn_succ] at hW
      clear hh
      refine e_inc2N dX7_passes_117 rfl ?_
      refine e_goto 104 dX7_passes_120 (by decide) ?_
      exact ih (i + 1) _ F Z (by omega) (by omega) hO hW hF hZ E hFv hZv _ _
set_option maxRecDepth 100000 in
set_option maxHeartbeats 4000000 in
theorem lp_X7_passes2 {h0 : jH} {a : Nat} {w : hw} (ha : a < 218 ∨ 218 < a) (ha2 : a < 230) (ok : g_ok w) (hd : w 4 < 2 ^ 30) {X : jX} (hX : jRet X (none) none (fun v h' => v = none ∧ h'[a]? = some (jN 41 (s_pass w)) ∧ (∃ F' Z' : Nat → Nat, h'[230]? = some (jN 8 F') ∧ h'[231]? = some (jN 8 Z')) ∧ jEq h0 h' (fun j => j = a ∨ j = 230 ∨ j = 231))) : ∀ (n i : Nat) (h : jH) (F Z : Nat → Nat) {s : Nat → Int32}, w 3 - i < n → i ≤ w 3 → RO h s → h[a]? = some (jN 41 (s_mid w i)) → h[230]? = some (jN 8 F) → h[231]? = some (jN 8 Z) → jEq h0 h (fun j => j = a ∨ j = 230 ∨ j = 231) → (∀ j, j < w 2 → F j = w (5 + j)) → (∀ j, j < w 2 → Z j = s_blown w j i) → ∀ l3 l4, jV cX7_passes RX7 3 X none 34 [some (.ref 218), some (.ref a), some (.int (nI i)), l3, l4] [] h := by
  intro n
  induction n with
  | zero => intros; omega
  | succ n ih =>
    intro i h F Z s hm hi hO hW hF hZ E hFv hZv l3 l4
    obtain ⟨k0, k1, k2, k3, k4, k5⟩ := id ok
    refine e_il2 dX7_passes_34 ?_
    refine e_al1 dX7_passes_35 ?_
    refine e_iconst (nI 3) dX7_passes_36 (by decide) ?_
    refine e_ialdN dX7_passes_37 hW (by omega) (by decide) ?_
    rw [s_mid_lo w i (by omega)]
    refine e_ic_geN 102 dX7_passes_38 (by decide) (by omega) (by omega) (fun c_38 => ?_) (fun c_38 => ?_)
    · refine e_iconst (nI 0) dX7_passes_102 (by decide) ?_
      refine e_is2 dX7_passes_103 rfl ?_
      exact lp_X7_passes3 ha ha2 ok hd hX (w 2 + 1) 0 _ F Z (by omega) (by omega) hO (by rw [s_bn_0, hW, show i = w 3 by omega]) hF hZ E hFv (fun j hj => by rw [hZv j hj, show i = w 3 by omega]) _ _
    · refine e_bipush (nI 13) dX7_passes_41 (by decide) ?_
      refine e_iconst (nI 4) dX7_passes_43 (by decide) ?_
      refine e_il2 dX7_passes_44 ?_
      refine e_imulN dX7_passes_45 ?_
      refine e_iaddN dX7_passes_46 ?_
      refine e_is3 dX7_passes_47 rfl ?_
      refine e_al1 dX7_passes_48 ?_
      refine e_il2 dX7_passes_49 ?_
      refine e_cs dX7_passes_50 sX7_173 (m_X7_keeps hW (s_mid_ok i ok) (i := i) (by rw [s_mid_lo w i (by omega)]; omega) (by rw [s_mid_lo w i (by omega)]; omega)) (by decide) rfl rfl (Nat.le_of_ble_eq_true rfl) jBud0 ?_
      rintro _ _ ⟨rfl, rfl⟩
      have k5i := k5 i (by omega)
      rw [s_mid_keep (by omega) k2 (by omega)]
      have e1 := s_mid_b w i i
      have e2 := s_mid_o w i i 2 (by omega)
      have e3 := s_mid_o w i i 3 (by omega)
      rw [if_neg (by omega)] at e1
      have hkl := s_keep_le w (p := i) (by omega)
      have hbl := s_blow_le2 w i
      have hkb : w (13 + 4 * i + 3) = 0 → s_keep w i = w (13 + 4 * i + 1) - s_blow w i := fun q => by unfold s_keep; rw [if_pos q]
      have hb0 : w (13 + 4 * i + 3) = 1 → s_blow w i = 0 := fun q => by unfold s_blow; rw [if_pos q]
      refine e_is4 dX7_passes_53 rfl ?_
      refine e_al0 dX7_passes_55 ?_
      refine e_get dX7_passes_56 fX7_47 hO rfl ?_
      refine e_al1 dX7_passes_59 ?_
      refine e_il3 dX7_passes_60 ?_
      refine e_iconst (nI 2) dX7_passes_61 (by decide) ?_
      refine e_iaddN dX7_passes_62 ?_
      refine e_ialdN dX7_passes_63 hW (by omega) (by decide) ?_
      refine e_dup2 dX7_passes_64 rfl rfl ?_
      refine e_ialdN dX7_passes_65 hZ (by omega) (by decide) ?_
      refine e_al1 dX7_passes_66 ?_
      refine e_il3 dX7_passes_67 ?_
      refine e_iconst (nI 3) dX7_passes_68 (by decide) ?_
      refine e_iaddN dX7_passes_69 ?_
      refine e_ialdN dX7_passes_70 hW (by omega) (by decide) ?_
      refine e_iconst (nI 1) dX7_passes_71 (by decide) ?_
      refine e_ic_neN 79 dX7_passes_72 (by decide) (by omega) (by omega) (fun c_72 => ?_) (fun c_72 => ?_)
      · refine e_al1 dX7_passes_79 ?_
        refine e_il3 dX7_passes_80 ?_
        refine e_iconst (nI 1) dX7_passes_81 (by decide) ?_
        refine e_iaddN dX7_passes_82 ?_
        refine e_ialdN dX7_passes_83 hW (by omega) (by decide) ?_
        refine e_il4 dX7_passes_84 ?_
        refine e_isubN dX7_passes_86 (by have := hkb (by omega); omega) ?_
        refine e_iaddN dX7_passes_87 ?_
        refine e_iastN dX7_passes_88 hZ (by omega) (by decide) ?_
        refine e_abs (fun h1 hh => ?_)
        replace hO := jhs hh hO (by omega)
        replace hW := jhs hh hW (by omega)
        replace hF := jhs hh hF (by omega)
        replace hZ := jhs_at hh hZ
        replace E := jEq.hs hh E (Or.inr (Or.inr rfl))
        clear hh
        refine e_al1 dX7_passes_89 ?_
        refine e_il3 dX7_passes_90 ?_
        refine e_iconst (nI 1) dX7_passes_91 (by decide) ?_
        refine e_iaddN dX7_passes_92 ?_
        refine e_il4 dX7_passes_93 ?_
        refine e_iastN dX7_passes_95 hW (by omega) (by decide) ?_
        refine e_abs (fun h2 hh => ?_)
        replace hO := jhs hh hO (by omega)
        replace hW := jhs_at hh hW
        replace hF := jhs hh hF (by omega)
        replace hZ := jhs hh hZ (by omega)
        replace E := jEq.hs hh E (Or.inl rfl)
        clear hh
        rw [s_mid_succ] at hW
        refine e_inc2N dX7_passes_96 rfl ?_
        refine e_goto 34 dX7_passes_99 (by decide) ?_
        refine ih (i + 1) _ F _ (by omega) (by omega) hO hW hF hZ E hFv (fun j hj => ?_) _ _
        unfold va_up
        rw [s_blown]
        by_cases q : j = s_mid w i (13 + 4 * i + 2)
        · rw [if_pos q, if_pos (by omega), ← q, hZv j hj]
          congr 1
          first | (rw [hb0 (by omega)]) | (have := hkb (by omega); omega)
        · rw [if_neg q, if_neg (by omega), hZv j hj]; rfl
      · refine e_iconst (nI 0) dX7_passes_75 (by decide) ?_
        refine e_goto 87 dX7_passes_76 (by decide) ?_
        refine e_iaddN dX7_passes_87 ?_
        refine e_iastN dX7_passes_88 hZ (by omega) (by decide) ?_
        refine e_abs (fun h1 hh => ?_)
        replace hO := jhs hh hO (by omega)
        replace hW := jhs hh hW (by omega)
        replace hF := jhs hh hF (by omega)
        replace hZ := jhs_at hh hZ
        replace E := jEq.hs hh E (Or.inr (Or.inr rfl))
        clear hh
        refine e_al1 dX7_passes_89 ?_
        refine e_il3 dX7_passes_90 ?_
        refine e_iconst (nI 1) dX7_passes_91 (by decide) ?_
        refine e_iaddN dX7_passes_92 ?_
        refine e_il4 dX7_passes_93 ?_
        refine e_iastN dX7_passes_95 hW (by omega) (by decide) ?_
        refine e_abs (fun h2 hh => ?_)
        replace hO := jhs hh hO (by omega)
        replace hW := jhs_at hh hW
        replace hF := jhs hh hF (by omega)
        replace hZ := jhs hh hZ (by omega)
        replace E := jEq.hs hh E (Or.inl rfl)
        clear hh
        rw [s_mid_succ] at hW
        refine e_inc2N dX7_passes_96 rfl ?_
        refine e_goto 34 dX7_passes_99 (by decide) ?_
        refine ih (i + 1) _ F _ (by omega) (by omega) hO hW hF hZ E hFv (fun j hj => ?_) _ _
        unfold va_up
        rw [s_blown]
        by_cases q : j = s_mid w i (13 + 4 * i + 2)
        · rw [if_pos q, if_pos (by omega), ← q, hZv j hj]
          congr 1
          first | (rw [hb0 (by omega)]) | (have := hkb (by omega); omega)
        · rw [if_neg q, if_neg (by omega), hZv j hj]; rfl
set_option maxRecDepth 100000 in
set_option maxHeartbeats 4000000 in
theorem lp_X7_passes1 {h0 : jH} {a : Nat} {w : hw} (ha : a < 218 ∨ 218 < a) (ha2 : a < 230) (ok : g_ok w) (hd : w 4 < 2 ^ 30) {X : jX} (hX : jRet X (none) none (fun v h' => v = none ∧ h'[a]? = some (jN 41 (s_pass w)) ∧ (∃ F' Z' : Nat → Nat, h'[230]? = some (jN 8 F') ∧ h'[231]? = some (jN 8 Z')) ∧ jEq h0 h' (fun j => j = a ∨ j = 230 ∨ j = 231))) : ∀ (n i : Nat) (h : jH) (F Z : Nat → Nat) {s : Nat → Int32}, 8 - i < n → i ≤ 8 → RO h s → h[a]? = some (jN 41 w) → h[230]? = some (jN 8 F) → h[231]? = some (jN 8 Z) → jEq h0 h (fun j => j = a ∨ j = 230 ∨ j = 231) → (∀ j, j < i → F j = w (5 + j)) → (∀ j, j < i → Z j = 0) → jV cX7_passes RX7 3 X none 2 [some (.ref 218), some (.ref a), some (.int (nI i)), none, none] [] h := by
  intro n
  induction n with
  | zero => intros; omega
  | succ n ih =>
    intro i h F Z s hm hi hO hW hF hZ E hFv hZv
    obtain ⟨k0, k1, k2, k3, k4, k5⟩ := id ok
    refine e_il2 dX7_passes_2 ?_
    refine e_bipush (nI 8) dX7_passes_3 (by decide) ?_
    refine e_ic_geN 32 dX7_passes_5 (by decide) (by omega) (by omega) (fun c_5 => ?_) (fun c_5 => ?_)
    · refine e_iconst (nI 0) dX7_passes_32 (by decide) ?_
      refine e_is2 dX7_passes_33 rfl ?_
      exact lp_X7_passes2 ha ha2 ok hd hX (w 3 + 1) 0 _ F Z (by omega) (by omega) hO (by rw [s_mid_0, hW]) hF hZ E (fun j hj => hFv j (by omega)) (fun j hj => by rw [hZv j (by omega)]; rfl) _ _
    · refine e_al0 dX7_passes_8 ?_
      refine e_get dX7_passes_9 fX7_44 hO rfl ?_
      refine e_il2 dX7_passes_12 ?_
      refine e_al1 dX7_passes_13 ?_
      refine e_iconst (nI 5) dX7_passes_14 (by decide) ?_
      refine e_il2 dX7_passes_15 ?_
      refine e_iaddN dX7_passes_16 ?_
      refine e_ialdN dX7_passes_17 hW (by omega) (by decide) ?_
      refine e_iastN dX7_passes_18 hF (by omega) (by decide) ?_
      refine e_abs (fun h1 hh => ?_)
      replace hO := jhs hh hO (by omega)
      replace hW := jhs hh hW (by omega)
      replace hF := jhs_at hh hF
      replace hZ := jhs hh hZ (by omega)
      replace E := jEq.hs hh E (Or.inr (Or.inl rfl))
      clear hh
      refine e_al0 dX7_passes_19 ?_
      refine e_get dX7_passes_20 fX7_47 hO rfl ?_
      refine e_il2 dX7_passes_23 ?_
      refine e_iconst (nI 0) dX7_passes_24 (by decide) ?_
      refine e_iastN dX7_passes_25 hZ (by omega) (by decide) ?_
      refine e_abs (fun h2 hh => ?_)
      replace hO := jhs hh hO (by omega)
      replace hW := jhs hh hW (by omega)
      replace hF := jhs hh hF (by omega)
      replace hZ := jhs_at hh hZ
      replace E := jEq.hs hh E (Or.inr (Or.inr rfl))
      clear hh
      refine e_inc2N dX7_passes_26 rfl ?_
      refine e_goto 2 dX7_passes_29 (by decide) ?_
      refine ih (i + 1) _ _ _ (by omega) (by omega) hO hW hF hZ E (fun j hj => ?_) (fun j hj => ?_)
      · unfold va_up
        by_cases q : j = i
        · rw [if_pos q, q]
        · rw [if_neg q, hFv j (by omega)]
      · unfold va_up
        by_cases q : j = i
        · rw [if_pos q]
        · rw [if_neg q, hZv j (by omega)]
set_option maxRecDepth 100000 in
set_option maxHeartbeats 4000000 in
theorem m_X7_passes {h : jH} {s : Nat → Int32} {a : Nat} {w : hw} (ha : a < 218 ∨ 218 < a) (ha2 : a < 230) (ok : g_ok w) (hd : w 4 < 2 ^ 30) (hO : RO h s) (hW : h[a]? = some (jN 41 w)) {F Z : Nat → Nat} (hF : h[230]? = some (jN 8 F)) (hZ : h[231]? = some (jN 8 Z)) : jM yX7_passes cX7_passes 5 (none : Option Jvm.ClassFile.FieldType) 3 none [.ref 218, .ref a] h (fun v h' => v = none ∧ h'[a]? = some (jN 41 (s_pass w)) ∧ (∃ F' Z' : Nat → Nat, h'[230]? = some (jN 8 F') ∧ h'[231]? = some (jN 8 Z')) ∧ jEq h h' (fun j => j = a ∨ j = 230 ∨ j = 231)) := by
  refine jM.ofF (by decide +kernel) rfl (Nat.le_of_ble_eq_true rfl) (fun X hX hI => ?_)
  show jV cX7_passes RX7 3 X none 0 [some (.ref 218), some (.ref a), none, none, none] [] h
  refine e_iconst (nI 0) dX7_passes_0 (by decide) ?_
  refine e_is2 dX7_passes_1 rfl ?_
  exact lp_X7_passes1 ha ha2 ok hd hX 9 0 _ F Z (by omega) (by omega) hO hW hF hZ jEq.rf (fun j hj => absurd hj (by omega)) (fun j hj => absurd hj (by omega))
