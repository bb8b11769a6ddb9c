set_option maxRecDepth 100000 in
set_option maxHeartbeats 4000000 in
theorem m_J9_min_7cf53 {h : jH} {x y : Int32} : jM yJ9_min_7cf53 cJ9_min_7cf53 2 (some .int) 0 none [.int x, .int y] h (jRt (.int (if x ≤ y then x else y)) h) := by
  refine jM.ofF (by decide +kernel) rfl (Nat.le_of_ble_eq_true rfl) (fun X hX hI => ?_)
  show jV cJ9_min_7cf53 RJ9 0 X none 0 [some (.int x), some (.int y)] [] h
  refine e_il0 dJ9_min_7cf53_0 ?_
  refine e_il1 dJ9_min_7cf53_1 ?_
  refine e_ic_gt 9 dJ9_min_7cf53_2 (by decide) (fun c_2 => ?_) (fun c_2 => ?_)
  · refine e_il1 dJ9_min_7cf53_9 ?_
    exact e_iret hX dJ9_min_7cf53_10 (by refine jRt_e ?_; first | exact (if_pos (fa_of_nlt c_2)).symm | exact (if_neg (fun q => absurd c_2 (by rw [fa_lt]; rw [fa_le] at q; omega))).symm) (fun z => z)
  · refine e_il0 dJ9_min_7cf53_5 ?_
    refine e_goto 10 dJ9_min_7cf53_6 (by decide) ?_
    exact e_iret hX dJ9_min_7cf53_10 (by refine jRt_e ?_; first | exact (if_pos (fa_of_nlt c_2)).symm | exact (if_neg (fun q => absurd c_2 (by rw [fa_lt]; rw [fa_le] at q; omega))).symm) (fun z => z)
set_option maxRecDepth 100000 in
set_option maxHeartbeats 4000000 in
theorem m_J9_max_7cf53 {h : jH} {x y : Int32} : jM yJ9_max_7cf53 cJ9_max_7cf53 2 (some .int) 0 none [.int x, .int y] h (jRt (.int (if y ≤ x then x else y)) h) := by
  refine jM.ofF (by decide +kernel) rfl (Nat.le_of_ble_eq_true rfl) (fun X hX hI => ?_)
  show jV cJ9_max_7cf53 RJ9 0 X none 0 [some (.int x), some (.int y)] [] h
  refine e_il0 dJ9_max_7cf53_0 ?_
  refine e_il1 dJ9_max_7cf53_1 ?_
  refine e_ic_lt 9 dJ9_max_7cf53_2 (by decide) (fun c_2 => ?_) (fun c_2 => ?_)
  · refine e_il1 dJ9_max_7cf53_9 ?_
    exact e_iret hX dJ9_max_7cf53_10 (by refine jRt_e ?_; first | exact (if_pos (fa_of_nlt c_2)).symm | exact (if_neg (fun q => absurd c_2 (by rw [fa_lt]; rw [fa_le] at q; omega))).symm) (fun z => z)
  · refine e_il0 dJ9_max_7cf53_5 ?_
    refine e_goto 10 dJ9_max_7cf53_6 (by decide) ?_
    exact e_iret hX dJ9_max_7cf53_10 (by refine jRt_e ?_; first | exact (if_pos (fa_of_nlt c_2)).symm | exact (if_neg (fun q => absurd c_2 (by rw [fa_lt]; rw [fa_le] at q; omega))).symm) (fun z => z)
theorem m_minN {h : jH} {x y : Nat} (hx : x < 2 ^ 31) (hy : y < 2 ^ 31) : jM yJ9_min_7cf53 cJ9_min_7cf53 2 (some .int) 0 none [.int (nI x), .int (nI y)] h (jRt (.int (nI (min x y))) h) := by
  have e : (if nI x ≤ nI y then nI x else nI y) = nI (min x y) := by
    by_cases q : x ≤ y
    · rw [if_pos ((nI_leI hx hy).mpr q), Nat.min_eq_left q]
    · rw [if_neg (fun c => q ((nI_leI hx hy).mp c)), Nat.min_eq_right (by omega)]
  rw [← e]
  exact m_J9_min_7cf53
theorem m_maxN {h : jH} {x y : Nat} (hx : x < 2 ^ 31) (hy : y < 2 ^ 31) : jM yJ9_max_7cf53 cJ9_max_7cf53 2 (some .int) 0 none [.int (nI x), .int (nI y)] h (jRt (.int (nI (max x y))) h) := by
  have e : (if nI y ≤ nI x then nI x else nI y) = nI (max x y) := by
    by_cases q : y ≤ x
    · rw [if_pos ((nI_leI hy hx).mpr q), Nat.max_eq_left q]
    · rw [if_neg (fun c => q ((nI_leI hy hx).mp c)), Nat.max_eq_right (by omega)]
  rw [← e]
  exact m_J9_max_7cf53
theorem n_p8 : ∀ {i : Nat}, i < 8 → 1 * 2 ^ i < 2 ^ 32 := by decide +kernel
theorem n_p8l : ∀ {i : Nat}, i ≤ 8 → 2 ^ i ≤ 256 := by decide +kernel
theorem s_lit_lt (w : hw) : ∀ n, s_lit w n < 2 ^ n
  | 0 => Nat.one_pos
  | n + 1 => by
    have h := s_lit_lt w n
    unfold s_lit
    refine Nat.or_lt_two_pow (Nat.lt_of_lt_of_le h (Nat.pow_le_pow_right (by omega) (by omega))) ?_
    split
    · exact Nat.pow_lt_pow_right (by omega) (by omega)
    · exact Nat.two_pow_pos _
set_option maxRecDepth 100000 in
set_option maxHeartbeats 4000000 in
theorem m_X3_stands {h : jH} {o : Nat} {w : hw} {f k b p g z : Nat → Nat} (hC : HC h o w f k b p g z) (hs : w 2 < 2 ^ 31) : jM yX3_stands cX3_stands 1 (some .boolean) 0 none [.ref o] h (jRt (.int (jb (0 < w 2))) h) := by
  refine jM.ofF (by decide +kernel) rfl (Nat.le_of_ble_eq_true rfl) (fun X hX hI => ?_)
  show jV cX3_stands RX3 0 X none 0 [some (.ref o)] [] h
  refine e_al0 dX3_stands_0 ?_
  refine e_get dX3_stands_1 fX3_30 hC.1 rfl ?_
  refine e_if_leN 11 dX3_stands_4 (by decide) (by omega) (fun c_4 => ?_) (fun c_4 => ?_)
  · refine e_iconst (nI 0) dX3_stands_11 (by decide) ?_
    exact e_zret hX dX3_stands_12 rfl (by first | exact jRt_t (by omega) | exact jRt_f (by omega)) (fun z => z)
  · refine e_iconst (nI 1) dX3_stands_7 (by decide) ?_
    refine e_goto 12 dX3_stands_8 (by decide) ?_
    exact e_zret hX dX3_stands_12 rfl (by first | exact jRt_t (by omega) | exact jRt_f (by omega)) (fun z => z)
set_option maxRecDepth 100000 in
set_option maxHeartbeats 4000000 in
theorem m_X3_isLit {h : jH} {o : Nat} {w : hw} {f k b p g z : Nat → Nat} (hC : HC h o w f k b p g z) {i : Nat} (hi : i < 8) (hf : f i < 2 ^ 31) : jM yX3_isLit cX3_isLit 2 (some .boolean) 0 none [.ref o, .int (nI i)] h (jRt (.int (jb (0 < f i))) h) := by
  refine jM.ofF (by decide +kernel) rfl (Nat.le_of_ble_eq_true rfl) (fun X hX hI => ?_)
  show jV cX3_isLit RX3 0 X none 0 [some (.ref o), some (.int (nI i))] [] h
  refine e_al0 dX3_isLit_0 ?_
  refine e_get dX3_isLit_1 fX3_11 hC.1 rfl ?_
  refine e_il1 dX3_isLit_4 ?_
  refine e_ialdN dX3_isLit_5 hC.2.1 (by omega) (by decide) ?_
  refine e_if_leN 13 dX3_isLit_6 (by decide) (by omega) (fun c_6 => ?_) (fun c_6 => ?_)
  · refine e_iconst (nI 0) dX3_isLit_13 (by decide) ?_
    exact e_zret hX dX3_isLit_14 rfl (by first | exact jRt_t (by omega) | exact jRt_f (by omega)) (fun z => z)
  · refine e_iconst (nI 1) dX3_isLit_9 (by decide) ?_
    refine e_goto 14 dX3_isLit_10 (by decide) ?_
    exact e_zret hX dX3_isLit_14 rfl (by first | exact jRt_t (by omega) | exact jRt_f (by omega)) (fun z => z)
set_option maxRecDepth 100000 in
set_option maxHeartbeats 4000000 in
theorem lp_X3_litBits {h : jH} {o : Nat} {w : hw} {f k b p g z : Nat → Nat} (hC : HC h o w f k b p g z) (hV : HV w f k b p g) (ok : g_ok w) {X : jX} (hX : jRet X (some .int) none (jRt (.int (nI (s_lit w (w 2)))) h)) : ∀ (n : Nat) (i acc : Nat), w 2 - i < n → i ≤ w 2 → acc = s_lit w i → jV cX3_litBits RX3 1 X none 4 [some (.ref o), some (.int (nI acc)), some (.int (nI i))] [] h := by
  intro n
  induction n with
  | zero => intros; omega
  | succ n ih =>
    intro i acc hm hi hacc
    obtain ⟨k0, k1, k2, k3, k4, k5⟩ := id ok
    refine e_il2 dX3_litBits_4 ?_
    refine e_al0 dX3_litBits_5 ?_
    refine e_get dX3_litBits_6 fX3_30 hC.1 rfl ?_
    refine e_ic_geN 36 dX3_litBits_9 (by decide) (by omega) (by omega) (fun c_9 => ?_) (fun c_9 => ?_)
    · refine e_il1 dX3_litBits_36 ?_
      exact e_iret hX dX3_litBits_37 (by rw [hacc, show i = w 2 by omega]; exact ⟨rfl, rfl⟩) (fun z => z)
    · refine e_il1 dX3_litBits_12 ?_
      refine e_al0 dX3_litBits_13 ?_
      refine e_il2 dX3_litBits_14 ?_
      refine e_cv dX3_litBits_15 vX3_52 (m_X3_isLit hC (i := i) (by omega) (by rw [hV.1 i (by omega)]; have := k4 i (by omega); omega)) (by decide) rfl rfl (Nat.le_of_ble_eq_true rfl) jBud0 rfl hC.1 ?_
      rintro _ _ ⟨rfl, rfl⟩
      refine e_if_eqB 27 dX3_litBits_18 (by decide) (fun c_18 => ?_) (fun c_18 => ?_)
      · refine e_iconst (nI 0) dX3_litBits_27 (by decide) ?_
        refine e_iorN dX3_litBits_28 ?_
        refine e_is1 dX3_litBits_29 rfl ?_
        refine e_inc2N dX3_litBits_30 rfl ?_
        refine e_goto 4 dX3_litBits_33 (by decide) ?_
        exact ih (i + 1) _ (by omega) (by omega) (by first | (rw [s_lit, if_pos (by rw [← hV.1 i (by omega)]; assumption), hacc, Nat.one_mul]) | (rw [s_lit, if_neg (by rw [← hV.1 i (by omega)]; assumption), hacc]))
      · refine e_iconst (nI 1) dX3_litBits_21 (by decide) ?_
        refine e_il2 dX3_litBits_22 ?_
        refine e_ishlN dX3_litBits_23 (by omega) (n_p8 (by omega)) ?_
        refine e_goto 28 dX3_litBits_24 (by decide) ?_
        refine e_iorN dX3_litBits_28 ?_
        refine e_is1 dX3_litBits_29 rfl ?_
        refine e_inc2N dX3_litBits_30 rfl ?_
        refine e_goto 4 dX3_litBits_33 (by decide) ?_
        exact ih (i + 1) _ (by omega) (by omega) (by first | (rw [s_lit, if_pos (by rw [← hV.1 i (by omega)]; assumption), hacc, Nat.one_mul]) | (rw [s_lit, if_neg (by rw [← hV.1 i (by omega)]; assumption), hacc]))
set_option maxRecDepth 100000 in
set_option maxHeartbeats 4000000 in
theorem m_X3_litBits {h : jH} {o : Nat} {w : hw} {f k b p g z : Nat → Nat} (hC : HC h o w f k b p g z) (hV : HV w f k b p g) (ok : g_ok w) : jM yX3_litBits cX3_litBits 3 (some .int) 1 none [.ref o] h (jRt (.int (nI (s_lit w (w 2)))) h) := by
  refine jM.ofF (by decide +kernel) rfl (Nat.le_of_ble_eq_true rfl) (fun X hX hI => ?_)
  show jV cX3_litBits RX3 1 X none 0 [some (.ref o), none, none] [] h
  refine e_iconst (nI 0) dX3_litBits_0 (by decide) ?_
  refine e_is1 dX3_litBits_1 rfl ?_
  refine e_iconst (nI 0) dX3_litBits_2 (by decide) ?_
  refine e_is2 dX3_litBits_3 rfl ?_
  exact lp_X3_litBits hC hV ok hX (w 2 + 1) 0 0 (by omega) (by omega) rfl
set_option maxRecDepth 100000 in
set_option maxHeartbeats 4000000 in
theorem m_X3_isAllLit {h : jH} {o : Nat} {w : hw} {f k b p g z : Nat → Nat} (hC : HC h o w f k b p g z) (hV : HV w f k b p g) (ok : g_ok w) : jM yX3_isAllLit cX3_isAllLit 1 (some .boolean) 2 none [.ref o] h (jRt (.int (jb (s_lit w (w 2) = 2 ^ w 2 - 1))) h) := by
  obtain ⟨k0, k1, k2, k3, k4, k5⟩ := id ok
  refine jM.ofF (by decide +kernel) rfl (Nat.le_of_ble_eq_true rfl) (fun X hX hI => ?_)
  show jV cX3_isAllLit RX3 2 X none 0 [some (.ref o)] [] h
  refine e_al0 dX3_isAllLit_0 ?_
  refine e_cv dX3_isAllLit_1 vX3_56 (m_X3_litBits hC hV ok) (by decide) rfl rfl (Nat.le_of_ble_eq_true rfl) jBud0 rfl hC.1 ?_
  rintro _ _ ⟨rfl, rfl⟩
  refine e_iconst (nI 1) dX3_isAllLit_4 (by decide) ?_
  refine e_al0 dX3_isAllLit_5 ?_
  refine e_get dX3_isAllLit_6 fX3_30 hC.1 rfl ?_
  refine e_ishlN dX3_isAllLit_9 (by omega) (Nat.lt_of_le_of_lt (by rw [Nat.one_mul]; exact n_p8l k2) (by decide)) ?_
  refine e_iconst (nI 1) dX3_isAllLit_10 (by decide) ?_
  refine e_isubN dX3_isAllLit_11 (by rw [Nat.one_mul]; exact Nat.two_pow_pos _) ?_
  refine e_ic_neN 19 dX3_isAllLit_12 (by decide) (by have := s_lit_lt w (w 2); have := n_p8l k2; omega) (by have := n_p8l k2; omega) (fun c_12 => ?_) (fun c_12 => ?_)
  · refine e_iconst (nI 0) dX3_isAllLit_19 (by decide) ?_
    exact e_zret hX dX3_isAllLit_20 rfl (by rw [Nat.one_mul] at c_12; first | exact jRt_t c_12 | exact jRt_f c_12) (fun z => z)
  · refine e_iconst (nI 1) dX3_isAllLit_15 (by decide) ?_
    refine e_goto 20 dX3_isAllLit_16 (by decide) ?_
    exact e_zret hX dX3_isAllLit_20 rfl (by rw [Nat.one_mul] at c_12; first | exact jRt_t c_12 | exact jRt_f c_12) (fun z => z)
theorem s_pegs_lt {w : hw} (ok : g_ok w) : ∀ n, n ≤ w 3 → s_pegs w n < 2 ^ n
  | 0, _ => Nat.one_pos
  | n + 1, hn => by
    have h := s_pegs_lt ok n (by omega)
    have hg := (ok.2.2.2.2.2 n (by omega)).2.2.2.2
    unfold s_pegs
    refine Nat.or_lt_two_pow (Nat.lt_of_lt_of_le h (Nat.pow_le_pow_right (by omega) (by omega))) ?_
    refine Nat.lt_of_le_of_lt (Nat.mul_le_mul_right _ hg) ?_
    rw [Nat.one_mul]
    exact Nat.pow_lt_pow_right (by omega) (by omega)
def s_fst (w : hw) (p : Nat) : Nat → Int32
  | 0 => -1000000
  | n + 1 => if w (13 + 4 * p + 1) = 0 then nI p else s_fst w (p + 1) n
theorem jset_same {h : jH} {i : Nat} {c : jC} (hc : h[i]? = some c) : h.set i c = h := by
  apply List.ext_getElem?
  intro k
  by_cases hk : i = k
  · subst hk; rw [List.getElem?_set_self (List.getElem?_eq_some_iff.mp hc).1, hc]
  · rw [List.getElem?_set_ne hk]
set_option maxRecDepth 100000 in
set_option maxHeartbeats 4000000 in
theorem lp_X3_pegBits {h : jH} {o : Nat} {w : hw} {f k b p g z : Nat → Nat} (hC : HC h o w f k b p g z) (hV : HV w f k b p g) (ok : g_ok w) {X : jX} (hX : jRet X (some .int) none (jRt (.int (nI (s_pegs w (w 3)))) h)) : ∀ (n : Nat) (i acc : Nat), w 3 - i < n → i ≤ w 3 → acc = s_pegs w i → jV cX3_pegBits RX3 0 X none 4 [some (.ref o), some (.int (nI acc)), some (.int (nI i))] [] h := by
  intro n
  induction n with
  | zero => intros; omega
  | succ n ih =>
    intro i acc hm hi hacc
    obtain ⟨k0, k1, k2, k3, k4, k5⟩ := id ok
    refine e_il2 dX3_pegBits_4 ?_
    refine e_al0 dX3_pegBits_5 ?_
    refine e_get dX3_pegBits_6 fX3_43 hC.1 rfl ?_
    refine e_ic_geN 29 dX3_pegBits_9 (by decide) (by omega) (by omega) (fun c_9 => ?_) (fun c_9 => ?_)
    · refine e_il1 dX3_pegBits_29 ?_
      exact e_iret hX dX3_pegBits_30 (by rw [hacc, show i = w 3 by omega]; exact ⟨rfl, rfl⟩) (fun z => z)
    · have hgi := hV.2 i (by omega)
      have k5i := k5 i (by omega)
      refine e_il1 dX3_pegBits_12 ?_
      refine e_al0 dX3_pegBits_13 ?_
      refine e_get dX3_pegBits_14 fX3_24 hC.1 rfl ?_
      refine e_il2 dX3_pegBits_17 ?_
      refine e_ialdN dX3_pegBits_18 hC.2.2.2.2.2.1 (by omega) (by decide) ?_
      refine e_il2 dX3_pegBits_19 ?_
      refine e_ishlN dX3_pegBits_20 (by omega) (Nat.lt_of_le_of_lt (Nat.mul_le_mul_right _ (show g i ≤ 1 by omega)) (n_p8 (by omega))) ?_
      refine e_iorN dX3_pegBits_21 ?_
      refine e_is1 dX3_pegBits_22 rfl ?_
      refine e_inc2N dX3_pegBits_23 rfl ?_
      refine e_goto 4 dX3_pegBits_26 (by decide) ?_
      exact ih (i + 1) _ (by omega) (by omega) (by rw [s_pegs, hacc, hgi.2.2.2])
set_option maxRecDepth 100000 in
set_option maxHeartbeats 4000000 in
theorem m_X3_pegBits {h : jH} {o : Nat} {w : hw} {f k b p g z : Nat → Nat} (hC : HC h o w f k b p g z) (hV : HV w f k b p g) (ok : g_ok w) : jM yX3_pegBits cX3_pegBits 3 (some .int) 0 none [.ref o] h (jRt (.int (nI (s_pegs w (w 3)))) h) := by
  refine jM.ofF (by decide +kernel) rfl (Nat.le_of_ble_eq_true rfl) (fun X hX hI => ?_)
  show jV cX3_pegBits RX3 0 X none 0 [some (.ref o), none, none] [] h
  refine e_iconst (nI 0) dX3_pegBits_0 (by decide) ?_
  refine e_is1 dX3_pegBits_1 rfl ?_
  refine e_iconst (nI 0) dX3_pegBits_2 (by decide) ?_
  refine e_is2 dX3_pegBits_3 rfl ?_
  exact lp_X3_pegBits hC hV ok hX (w 3 + 1) 0 0 (by omega) (by omega) rfl
set_option maxRecDepth 100000 in
set_option maxHeartbeats 4000000 in
theorem lp_X3_pairBitsAt {h : jH} {o : Nat} {w : hw} {f k b p g z : Nat → Nat} (hC : HC h o w f k b p g z) (hV : HV w f k b p g) (ok : g_ok w) {m : Nat} (hm8 : m < 8) {X : jX} (hX : jRet X (some .int) none (jRt (.int (nI (s_at w m (w 3)))) h)) : ∀ (n : Nat) (i acc : Nat), w 3 - i < n → i ≤ w 3 → acc = s_at w m i → jV cX3_pairBitsAt RX3 0 X none 4 [some (.ref o), some (.int (nI m)), some (.int (nI acc)), some (.int (nI i))] [] h := by
  intro n
  induction n with
  | zero => intros; omega
  | succ n ih =>
    intro i acc hm hi hacc
    obtain ⟨k0, k1, k2, k3, k4, k5⟩ := id ok
    refine e_il3 dX3_pairBitsAt_4 ?_
    refine e_al0 dX3_pairBitsAt_5 ?_
    refine e_get dX3_pairBitsAt_6 fX3_43 hC.1 rfl ?_
    refine e_ic_geN 38 dX3_pairBitsAt_9 (by decide) (by omega) (by omega) (fun c_9 => ?_) (fun c_9 => ?_)
    · refine e_il2 dX3_pairBitsAt_38 ?_
      exact e_iret hX dX3_pairBitsAt_39 (by rw [hacc, show i = w 3 by omega]; exact ⟨rfl, rfl⟩) (fun z => z)
    · have hgi := hV.2 i (by omega)
      have k5i := k5 i (by omega)
      refine e_il2 dX3_pairBitsAt_12 ?_
      refine e_al0 dX3_pairBitsAt_13 ?_
      refine e_get dX3_pairBitsAt_14 fX3_21 hC.1 rfl ?_
      refine e_il3 dX3_pairBitsAt_17 ?_
      refine e_ialdN dX3_pairBitsAt_18 hC.2.2.2.2.1 (by omega) (by decide) ?_
      refine e_il1 dX3_pairBitsAt_19 ?_
      refine e_ic_neN 29 dX3_pairBitsAt_20 (by decide) (by omega) (by omega) (fun c_20 => ?_) (fun c_20 => ?_)
      · refine e_iconst (nI 0) dX3_pairBitsAt_29 (by decide) ?_
        refine e_iorN dX3_pairBitsAt_30 ?_
        refine e_is2 dX3_pairBitsAt_31 rfl ?_
        refine e_inc3N dX3_pairBitsAt_32 rfl ?_
        refine e_goto 4 dX3_pairBitsAt_35 (by decide) ?_
        exact ih (i + 1) _ (by omega) (by omega) (by first | (rw [s_at, if_pos (by omega), hacc, Nat.one_mul]) | (rw [s_at, if_neg (by omega), hacc]))
      · refine e_iconst (nI 1) dX3_pairBitsAt_23 (by decide) ?_
        refine e_il3 dX3_pairBitsAt_24 ?_
        refine e_ishlN dX3_pairBitsAt_25 (by omega) (n_p8 (by omega)) ?_
        refine e_goto 30 dX3_pairBitsAt_26 (by decide) ?_
        refine e_iorN dX3_pairBitsAt_30 ?_
        refine e_is2 dX3_pairBitsAt_31 rfl ?_
        refine e_inc3N dX3_pairBitsAt_32 rfl ?_
        refine e_goto 4 dX3_pairBitsAt_35 (by decide) ?_
        exact ih (i + 1) _ (by omega) (by omega) (by first | (rw [s_at, if_pos (by omega), hacc, Nat.one_mul]) | (rw [s_at, if_neg (by omega), hacc]))
set_option maxRecDepth 100000 in
set_option maxHeartbeats 4000000 in
theorem m_X3_pairBitsAt {h : jH} {o : Nat} {w : hw} {f k b p g z : Nat → Nat} (hC : HC h o w f k b p g z) (hV : HV w f k b p g) (ok : g_ok w) {m : Nat} (hm8 : m < 8) : jM yX3_pairBitsAt cX3_pairBitsAt 4 (some .int) 0 none [.ref o, .int (nI m)] h (jRt (.int (nI (s_at w m (w 3)))) h) := by
  refine jM.ofF (by decide +kernel) rfl (Nat.le_of_ble_eq_true rfl) (fun X hX hI => ?_)
  show jV cX3_pairBitsAt RX3 0 X none 0 [some (.ref o), some (.int (nI m)), none, none] [] h
  refine e_iconst (nI 0) dX3_pairBitsAt_0 (by decide) ?_
  refine e_is2 dX3_pairBitsAt_1 rfl ?_
  refine e_iconst (nI 0) dX3_pairBitsAt_2 (by decide) ?_
  refine e_is3 dX3_pairBitsAt_3 rfl ?_
  exact lp_X3_pairBitsAt hC hV ok hm8 hX (w 3 + 1) 0 0 (by omega) (by omega) rfl
set_option maxRecDepth 100000 in
set_option maxHeartbeats 4000000 in
theorem lp_X3_fireInAll {h : jH} {o : Nat} {w : hw} {f k b p g z : Nat → Nat} (hC : HC h o w f k b p g z) (hV : HV w f k b p g) (ok : g_ok w) {X : jX} (hX : jRet X (some .int) none (jRt (.int (nI (s_fires w (w 2)))) h)) : ∀ (n : Nat) (i acc : Nat), w 2 - i < n → i ≤ w 2 → acc = s_fires w i → jV cX3_fireInAll RX3 0 X none 4 [some (.ref o), some (.int (nI acc)), some (.int (nI i))] [] h := by
  intro n
  induction n with
  | zero => intros; omega
  | succ n ih =>
    intro i acc hm hi hacc
    obtain ⟨k0, k1, k2, k3, k4, k5⟩ := id ok
    refine e_il2 dX3_fireInAll_4 ?_
    refine e_al0 dX3_fireInAll_5 ?_
    refine e_get dX3_fireInAll_6 fX3_30 hC.1 rfl ?_
    refine e_ic_geN 27 dX3_fireInAll_9 (by decide) (by omega) (by omega) (fun c_9 => ?_) (fun c_9 => ?_)
    · refine e_il1 dX3_fireInAll_27 ?_
      exact e_iret hX dX3_fireInAll_28 (by rw [hacc, show i = w 2 by omega]; exact ⟨rfl, rfl⟩) (fun z => z)
    · refine e_il1 dX3_fireInAll_12 ?_
      refine e_al0 dX3_fireInAll_13 ?_
      refine e_get dX3_fireInAll_14 fX3_11 hC.1 rfl ?_
      refine e_il2 dX3_fireInAll_17 ?_
      refine e_ialdN dX3_fireInAll_18 hC.2.1 (by omega) (by decide) ?_
      refine e_iaddN dX3_fireInAll_19 ?_
      refine e_is1 dX3_fireInAll_20 rfl ?_
      refine e_inc2N dX3_fireInAll_21 rfl ?_
      refine e_goto 4 dX3_fireInAll_24 (by decide) ?_
      exact ih (i + 1) _ (by omega) (by omega) (by rw [s_fires, hacc, hV.1 i (by omega)])
set_option maxRecDepth 100000 in
set_option maxHeartbeats 4000000 in
theorem m_X3_fireInAll {h : jH} {o : Nat} {w : hw} {f k b p g z : Nat → Nat} (hC : HC h o w f k b p g z) (hV : HV w f k b p g) (ok : g_ok w) : jM yX3_fireInAll cX3_fireInAll 3 (some .int) 0 none [.ref o] h (jRt (.int (nI (s_fires w (w 2)))) h) := by
  refine jM.ofF (by decide +kernel) rfl (Nat.le_of_ble_eq_true rfl) (fun X hX hI => ?_)
  show jV cX3_fireInAll RX3 0 X none 0 [some (.ref o), none, none] [] h
  refine e_iconst (nI 0) dX3_fireInAll_0 (by decide) ?_
  refine e_is1 dX3_fireInAll_1 rfl ?_
  refine e_iconst (nI 0) dX3_fireInAll_2 (by decide) ?_
  refine e_is2 dX3_fireInAll_3 rfl ?_
  exact lp_X3_fireInAll hC hV ok hX (w 2 + 1) 0 0 (by omega) (by omega) rfl
set_option maxRecDepth 100000 in
set_option maxHeartbeats 4000000 in
theorem lp_X3_breathInAll {h : jH} {o : Nat} {w : hw} {f k b p g z : Nat → Nat} (hC : HC h o w f k b p g z) (hV : HV w f k b p g) (ok : g_ok w) {X : jX} (hX : jRet X (some .int) none (jRt (.int (nI (s_breaths w (w 3)))) h)) : ∀ (n : Nat) (i acc : Nat), w 3 - i < n → i ≤ w 3 → acc = s_breaths w i → jV cX3_breathInAll RX3 0 X none 4 [some (.ref o), some (.int (nI acc)), some (.int (nI i))] [] h := by
  intro n
  induction n with
  | zero => intros; omega
  | succ n ih =>
    intro i acc hm hi hacc
    obtain ⟨k0, k1, k2, k3, k4, k5⟩ := id ok
    refine e_il2 dX3_breathInAll_4 ?_
    refine e_al0 dX3_breathInAll_5 ?_
    refine e_get dX3_breathInAll_6 fX3_43 hC.1 rfl ?_
    refine e_ic_geN 27 dX3_breathInAll_9 (by decide) (by omega) (by omega) (fun c_9 => ?_) (fun c_9 => ?_)
    · refine e_il1 dX3_breathInAll_27 ?_
      exact e_iret hX dX3_breathInAll_28 (by rw [hacc, show i = w 3 by omega]; exact ⟨rfl, rfl⟩) (fun z => z)
    · have hgi := hV.2 i (by omega)
      have k5i := k5 i (by omega)
      refine e_il1 dX3_breathInAll_12 ?_
      refine e_al0 dX3_breathInAll_13 ?_
      refine e_get dX3_breathInAll_14 fX3_18 hC.1 rfl ?_
      refine e_il2 dX3_breathInAll_17 ?_
      refine e_ialdN dX3_breathInAll_18 hC.2.2.2.1 (by omega) (by decide) ?_
      refine e_iaddN dX3_breathInAll_19 ?_
      refine e_is1 dX3_breathInAll_20 rfl ?_
      refine e_inc2N dX3_breathInAll_21 rfl ?_
      refine e_goto 4 dX3_breathInAll_24 (by decide) ?_
      exact ih (i + 1) _ (by omega) (by omega) (by rw [s_breaths, hacc, hgi.2.1])
set_option maxRecDepth 100000 in
set_option maxHeartbeats 4000000 in
theorem m_X3_breathInAll {h : jH} {o : Nat} {w : hw} {f k b p g z : Nat → Nat} (hC : HC h o w f k b p g z) (hV : HV w f k b p g) (ok : g_ok w) : jM yX3_breathInAll cX3_breathInAll 3 (some .int) 0 none [.ref o] h (jRt (.int (nI (s_breaths w (w 3)))) h) := by
  refine jM.ofF (by decide +kernel) rfl (Nat.le_of_ble_eq_true rfl) (fun X hX hI => ?_)
  show jV cX3_breathInAll RX3 0 X none 0 [some (.ref o), none, none] [] h
  refine e_iconst (nI 0) dX3_breathInAll_0 (by decide) ?_
  refine e_is1 dX3_breathInAll_1 rfl ?_
  refine e_iconst (nI 0) dX3_breathInAll_2 (by decide) ?_
  refine e_is2 dX3_breathInAll_3 rfl ?_
  exact lp_X3_breathInAll hC hV ok hX (w 3 + 1) 0 0 (by omega) (by omega) rfl
set_option maxRecDepth 100000 in
set_option maxHeartbeats 4000000 in
theorem lp_X3_first {h : jH} {o : Nat} {w : hw} {f k b p g z : Nat → Nat} (hC : HC h o w f k b p g z) (hV : HV w f k b p g) (ok : g_ok w) {r : Int32} {X : jX} (hX : jRet X (some .int) none (jRt (.int r) h)) : ∀ (n : Nat) (i : Nat), w 3 - i < n → i ≤ w 3 → r = s_fst w i (w 3 - i) → jV cX3_firstWithoutBreath RX3 0 X none 2 [some (.ref o), some (.int (nI i))] [] h := by
  intro n
  induction n with
  | zero => intros; omega
  | succ n ih =>
    intro i hm hi hr
    obtain ⟨k0, k1, k2, k3, k4, k5⟩ := id ok
    refine e_il1 dX3_firstWithoutBreath_2 ?_
    refine e_al0 dX3_firstWithoutBreath_3 ?_
    refine e_get dX3_firstWithoutBreath_4 fX3_43 hC.1 rfl ?_
    refine e_ic_geN 27 dX3_firstWithoutBreath_7 (by decide) (by omega) (by omega) (fun c_7 => ?_) (fun c_7 => ?_)
    · refine e_ldc dX3_firstWithoutBreath_27 kX3_60 ?_
      exact e_iret hX dX3_firstWithoutBreath_29 (by rw [hr, show w 3 - i = 0 by omega]; exact ⟨rfl, rfl⟩) (fun z => z)
    · have hgi := hV.2 i (by omega)
      have k5i := k5 i (by omega)
      refine e_al0 dX3_firstWithoutBreath_10 ?_
      refine e_get dX3_firstWithoutBreath_11 fX3_18 hC.1 rfl ?_
      refine e_il1 dX3_firstWithoutBreath_14 ?_
      refine e_ialdN dX3_firstWithoutBreath_15 hC.2.2.2.1 (by omega) (by decide) ?_
      refine e_if_neN 21 dX3_firstWithoutBreath_16 (by decide) (by omega) (fun c_16 => ?_) (fun c_16 => ?_)
      · refine e_inc1N dX3_firstWithoutBreath_21 rfl ?_
        refine e_goto 2 dX3_firstWithoutBreath_24 (by decide) ?_
        exact ih (i + 1) (by omega) (by omega) (by rw [hr, show w 3 - i = (w 3 - (i + 1)) + 1 by omega, s_fst, if_neg (by omega)])
      · refine e_il1 dX3_firstWithoutBreath_19 ?_
        exact e_iret hX dX3_firstWithoutBreath_20 (by rw [hr, show w 3 - i = (w 3 - i - 1) + 1 by omega, s_fst, if_pos (by omega)]; exact ⟨rfl, rfl⟩) (fun z => z)
set_option maxRecDepth 100000 in
set_option maxHeartbeats 4000000 in
theorem m_X3_firstWithoutBreath {h : jH} {o : Nat} {w : hw} {f k b p g z : Nat → Nat} (hC : HC h o w f k b p g z) (hV : HV w f k b p g) (ok : g_ok w) : jM yX3_firstWithoutBreath cX3_firstWithoutBreath 2 (some .int) 0 none [.ref o] h (jRt (.int (s_fst w 0 (w 3))) h) := by
  refine jM.ofF (by decide +kernel) rfl (Nat.le_of_ble_eq_true rfl) (fun X hX hI => ?_)
  show jV cX3_firstWithoutBreath RX3 0 X none 0 [some (.ref o), none] [] h
  refine e_iconst (nI 0) dX3_firstWithoutBreath_0 (by decide) ?_
  refine e_is1 dX3_firstWithoutBreath_1 rfl ?_
  exact lp_X3_first hC hV ok hX (w 3 + 1) 0 (by omega) (by omega) rfl
theorem s_warm_and (w : hw) : w 0 / 2 ^ (w 4 % 4) &&& 1 = s_warm w := by
  unfold s_warm
  exact Nat.and_one_is_mod _
theorem n_ct {c : Prop} [Decidable c] {h : jH} {x : Int32} (hc : c) (hx : x = 1) : jRt (.int (jb c)) h (some (.int x)) h := ⟨by rw [jb_t hc, hx], rfl⟩
set_option maxRecDepth 100000 in
set_option maxHeartbeats 4000000 in
theorem m_X3_isWarmDay {h : jH} {o : Nat} {w : hw} {f k b p g z : Nat → Nat} (hC : HC h o w f k b p g z) (hV : HV w f k b p g) (ok : g_ok w) (hd : w 4 < 2 ^ 31) : jM yX3_isWarmDay cX3_isWarmDay 1 (some .boolean) 0 none [.ref o] h (jRt (.int (jb (s_warm w = 1))) h) := by
  obtain ⟨k0, k1, k2, k3, k4, k5⟩ := id ok
  refine jM.ofF (by decide +kernel) rfl (Nat.le_of_ble_eq_true rfl) (fun X hX hI => ?_)
  show jV cX3_isWarmDay RX3 0 X none 0 [some (.ref o)] [] h
  refine e_al0 dX3_isWarmDay_0 ?_
  refine e_get dX3_isWarmDay_1 fX3_37 hC.1 rfl ?_
  refine e_al0 dX3_isWarmDay_4 ?_
  refine e_get dX3_isWarmDay_5 fX3_34 hC.1 rfl ?_
  refine e_iconst (nI 4) dX3_isWarmDay_8 (by decide) ?_
  refine e_iremN dX3_isWarmDay_9 (by omega) (by omega) (by omega) ?_
  refine e_ishrN dX3_isWarmDay_10 (by omega) (by omega) ?_
  refine e_iconst (nI 1) dX3_isWarmDay_11 (by decide) ?_
  refine e_iandN dX3_isWarmDay_12 ?_
  rw [s_warm_and]
  refine e_iconst (nI 1) dX3_isWarmDay_13 (by decide) ?_
  refine e_ic_neN 21 dX3_isWarmDay_14 (by decide) (by have := s_warm_le w; omega) (by omega) (fun c_14 => ?_) (fun c_14 => ?_)
  · refine e_iconst (nI 0) dX3_isWarmDay_21 (by decide) ?_
    exact e_zret hX dX3_isWarmDay_22 rfl (by first | exact jRt_t (by omega) | exact jRt_f (by omega)) (fun z => z)
  · refine e_iconst (nI 1) dX3_isWarmDay_17 (by decide) ?_
    refine e_goto 22 dX3_isWarmDay_18 (by decide) ?_
    exact e_zret hX dX3_isWarmDay_22 rfl (by first | exact jRt_t (by omega) | exact jRt_f (by omega)) (fun z => z)
set_option maxRecDepth 100000 in
set_option maxHeartbeats 4000000 in
theorem m_X3_blownBy {h : jH} {o : Nat} {w : hw} {f k b p g z : Nat → Nat} (hC : HC h o w f k b p g z) (hV : HV w f k b p g) (ok : g_ok w) {i : Nat} (hi : i < w 3) : jM yX3_blownBy cX3_blownBy 2 (some .int) 1 none [.ref o, .int (nI i)] h (jRt (.int (nI (s_blow w i))) h) := by
  obtain ⟨k0, k1, k2, k3, k4, k5⟩ := id ok
  have hgi := hV.2 i hi
  have k5i := k5 i hi
  refine jM.ofF (by decide +kernel) rfl (Nat.le_of_ble_eq_true rfl) (fun X hX hI => ?_)
  show jV cX3_blownBy RX3 1 X none 0 [some (.ref o), some (.int (nI i))] [] h
  refine e_al0 dX3_blownBy_0 ?_
  refine e_get dX3_blownBy_1 fX3_24 hC.1 rfl ?_
  refine e_il1 dX3_blownBy_4 ?_
  refine e_ialdN dX3_blownBy_5 hC.2.2.2.2.2.1 (by omega) (by decide) ?_
  refine e_iconst (nI 1) dX3_blownBy_6 (by decide) ?_
  refine e_ic_neN 14 dX3_blownBy_7 (by decide) (by omega) (by omega) (fun c_7 => ?_) (fun c_7 => ?_)
  · refine e_iconst (nI 4) dX3_blownBy_14 (by decide) ?_
    refine e_al0 dX3_blownBy_15 ?_
    refine e_get dX3_blownBy_16 fX3_18 hC.1 rfl ?_
    refine e_il1 dX3_blownBy_19 ?_
    refine e_ialdN dX3_blownBy_20 hC.2.2.2.1 (by omega) (by decide) ?_
    refine e_cs dX3_blownBy_21 sX3_72 (m_minN (by omega) (by omega)) (by decide) rfl rfl (Nat.le_of_ble_eq_true rfl) jBud0 ?_
    rintro _ _ ⟨rfl, rfl⟩
    exact e_iret hX dX3_blownBy_24 (by refine jRt_e ?_; unfold s_blow; first | (rw [if_pos (by omega)]) | (rw [if_neg (by omega), hgi.2.1])) (fun z => z)
  · refine e_iconst (nI 0) dX3_blownBy_10 (by decide) ?_
    refine e_goto 24 dX3_blownBy_11 (by decide) ?_
    exact e_iret hX dX3_blownBy_24 (by refine jRt_e ?_; unfold s_blow; first | (rw [if_pos (by omega)]) | (rw [if_neg (by omega), hgi.2.1])) (fun z => z)
