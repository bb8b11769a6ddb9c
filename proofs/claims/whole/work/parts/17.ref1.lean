set_option maxRecDepth 100000 in
set_option maxHeartbeats 4000000 in
theorem m_X7_in {h : jH} {x y u : Int32} : jM yX7_in cX7_in 3 (some .boolean) 0 none [.int x, .int y, .int u] h (jRt (.int (jb (y ≤ x ∧ x ≤ u))) h) := by
  refine jM.ofF (by decide +kernel) rfl (Nat.le_of_ble_eq_true rfl) (fun X hX hI => ?_)
  show jV cX7_in RX7 0 X none 0 [some (.int x), some (.int y), some (.int u)] [] h
  refine e_il0 dX7_in_0 ?_
  refine e_il1 dX7_in_1 ?_
  refine e_ic_lt 14 dX7_in_2 (by decide) (fun c_2 => ?_) (fun c_2 => ?_)
  · refine e_iconst (nI 0) dX7_in_14 (by decide) ?_
    exact e_zret hX dX7_in_15 rfl (by first | exact jRt_t ⟨fa_of_nlt c_2, fa_of_nlt c_7⟩ | exact jRt_f (fun q => absurd c_2 (by have := q.1; rw [fa_le] at this; rw [fa_lt]; omega)) | exact jRt_f (fun q => absurd c_7 (by have := q.2; rw [fa_le] at this; rw [fa_lt]; omega))) (fun z => z)
  · refine e_il0 dX7_in_5 ?_
    refine e_il2 dX7_in_6 ?_
    refine e_ic_gt 14 dX7_in_7 (by decide) (fun c_7 => ?_) (fun c_7 => ?_)
    · refine e_iconst (nI 0) dX7_in_14 (by decide) ?_
      exact e_zret hX dX7_in_15 rfl (by first | exact jRt_t ⟨fa_of_nlt c_2, fa_of_nlt c_7⟩ | exact jRt_f (fun q => absurd c_2 (by have := q.1; rw [fa_le] at this; rw [fa_lt]; omega)) | exact jRt_f (fun q => absurd c_7 (by have := q.2; rw [fa_le] at this; rw [fa_lt]; omega))) (fun z => z)
    · refine e_iconst (nI 1) dX7_in_10 (by decide) ?_
      refine e_goto 15 dX7_in_11 (by decide) ?_
      exact e_zret hX dX7_in_15 rfl (by first | exact jRt_t ⟨fa_of_nlt c_2, fa_of_nlt c_7⟩ | exact jRt_f (fun q => absurd c_2 (by have := q.1; rw [fa_le] at this; rw [fa_lt]; omega)) | exact jRt_f (fun q => absurd c_7 (by have := q.2; rw [fa_le] at this; rw [fa_lt]; omega))) (fun z => z)
theorem m_inN {h : jH} {x y u : Nat} (hx : x < 2 ^ 31) (hy : y < 2 ^ 31) (hu : u < 2 ^ 31) : jM yX7_in cX7_in 3 (some .boolean) 0 none [.int (nI x), .int (nI y), .int (nI u)] h (jRt (.int (jb (y ≤ x ∧ x ≤ u))) h) := by
  have e : jb (nI y ≤ nI x ∧ nI x ≤ nI u) = jb (y ≤ x ∧ x ≤ u) := jb_iff (by rw [nI_leI hy hx, nI_leI hx hu])
  rw [← e]
  exact m_X7_in
set_option maxRecDepth 100000 in
set_option maxHeartbeats 4000000 in
theorem m_X7_has {h : jH} {x y : Nat} (hx : x < 2 ^ 31) (hy : y < 32) : jM yX7_has cX7_has 2 (some .boolean) 0 none [.int (nI x), .int (nI y)] h (jRt (.int (jb (x / 2 ^ y % 2 = 1))) h) := by
  refine jM.ofF (by decide +kernel) rfl (Nat.le_of_ble_eq_true rfl) (fun X hX hI => ?_)
  show jV cX7_has RX7 0 X none 0 [some (.int (nI x)), some (.int (nI y))] [] h
  refine e_il0 dX7_has_0 ?_
  refine e_il1 dX7_has_1 ?_
  refine e_ishrN dX7_has_2 (by omega) (by omega) ?_
  refine e_iconst (nI 1) dX7_has_3 (by decide) ?_
  refine e_iandN dX7_has_4 ?_
  rw [show x / 2 ^ y &&& 1 = x / 2 ^ y % 2 from Nat.and_one_is_mod _]
  refine e_iconst (nI 1) dX7_has_5 (by decide) ?_
  refine e_ic_neN 13 dX7_has_6 (by decide) (by omega) (by omega) (fun c_6 => ?_) (fun c_6 => ?_)
  · refine e_iconst (nI 0) dX7_has_13 (by decide) ?_
    exact e_zret hX dX7_has_14 rfl (by first | exact jRt_t (by omega) | exact jRt_f (by omega)) (fun z => z)
  · refine e_iconst (nI 1) dX7_has_9 (by decide) ?_
    refine e_goto 14 dX7_has_10 (by decide) ?_
    exact e_zret hX dX7_has_14 rfl (by first | exact jRt_t (by omega) | exact jRt_f (by omega)) (fun z => z)
set_option maxRecDepth 100000 in
set_option maxHeartbeats 4000000 in
theorem lp_X7_bits {h : jH} {x : Nat} (hx : x < 2 ^ 31) {X : jX} (hX : jRet X (some .int) none (jRt (.int (nI (s_bits x 8))) h)) : ∀ (n i acc : Nat), 8 - i < n → i ≤ 8 → acc = s_bits x i → jV cX7_bits RX7 0 X none 4 [some (.int (nI x)), some (.int (nI acc)), some (.int (nI i))] [] h := by
  intro n
  induction n with
  | zero => intros; omega
  | succ n ih =>
    intro i acc hm hi hacc
    refine e_il2 dX7_bits_4 ?_
    refine e_bipush (nI 8) dX7_bits_5 (by decide) ?_
    refine e_ic_geN 24 dX7_bits_7 (by decide) (by omega) (by omega) (fun c_7 => ?_) (fun c_7 => ?_)
    · refine e_il1 dX7_bits_24 ?_
      exact e_iret hX dX7_bits_25 (by rw [hacc, show i = 8 by omega]; exact ⟨rfl, rfl⟩) (fun z => z)
    · refine e_il1 dX7_bits_10 ?_
      refine e_il0 dX7_bits_11 ?_
      refine e_il2 dX7_bits_12 ?_
      refine e_ishrN dX7_bits_13 (by omega) (by omega) ?_
      refine e_iconst (nI 1) dX7_bits_14 (by decide) ?_
      refine e_iandN dX7_bits_15 ?_
      rw [show x / 2 ^ i &&& 1 = x / 2 ^ i % 2 from Nat.and_one_is_mod _]
      refine e_iaddN dX7_bits_16 ?_
      refine e_is1 dX7_bits_17 rfl ?_
      refine e_inc2N dX7_bits_18 rfl ?_
      refine e_goto 4 dX7_bits_21 (by decide) ?_
      exact ih (i + 1) _ (by omega) (by omega) (by rw [s_bits, hacc])
set_option maxRecDepth 100000 in
set_option maxHeartbeats 4000000 in
theorem m_X7_bits {h : jH} {x : Nat} (hx : x < 2 ^ 31) : jM yX7_bits cX7_bits 3 (some .int) 0 none [.int (nI x)] h (jRt (.int (nI (s_bits x 8))) h) := by
  refine jM.ofF (by decide +kernel) rfl (Nat.le_of_ble_eq_true rfl) (fun X hX hI => ?_)
  show jV cX7_bits RX7 0 X none 0 [some (.int (nI x)), none, none] [] h
  refine e_iconst (nI 0) dX7_bits_0 (by decide) ?_
  refine e_is1 dX7_bits_1 rfl ?_
  refine e_iconst (nI 0) dX7_bits_2 (by decide) ?_
  refine e_is2 dX7_bits_3 rfl ?_
  exact lp_X7_bits hx hX 9 0 0 (by omega) (by omega) rfl
set_option maxRecDepth 100000 in
set_option maxHeartbeats 4000000 in
theorem m_X7_lesser {h : jH} {x y : Nat} (hx : x < 2 ^ 31) (hy : y < 2 ^ 31) : jM yX7_lesser cX7_lesser 2 (some .int) 0 none [.int (nI x), .int (nI y)] h (jRt (.int (nI (min x y))) h) := by
  refine jM.ofF (by decide +kernel) rfl (Nat.le_of_ble_eq_true rfl) (fun X hX hI => ?_)
  show jV cX7_lesser RX7 0 X none 0 [some (.int (nI x)), some (.int (nI y))] [] h
  refine e_il0 dX7_lesser_0 ?_
  refine e_il1 dX7_lesser_1 ?_
  refine e_ic_geN 9 dX7_lesser_2 (by decide) (by omega) (by omega) (fun c_2 => ?_) (fun c_2 => ?_)
  · refine e_il1 dX7_lesser_9 ?_
    exact e_iret hX dX7_lesser_10 (by refine jRt_e (congrArg nI ?_); omega) (fun z => z)
  · refine e_il0 dX7_lesser_5 ?_
    refine e_goto 10 dX7_lesser_6 (by decide) ?_
    exact e_iret hX dX7_lesser_10 (by refine jRt_e (congrArg nI ?_); omega) (fun z => z)
set_option maxRecDepth 100000 in
set_option maxHeartbeats 4000000 in
theorem lp_X7_copies {h0 : jH} {a c n1 n2 v1 v2 : Nat} {f g : Nat → Nat} (hf : h0[a]? = some (jN n1 f)) (ht : h0[c]? = some (jN n2 g)) (hac : c ≠ a) (h1 : v1 + 41 ≤ n1) (h2 : v2 + 41 ≤ n2) (hn1 : n1 < 10000) (hn2 : n2 < 10000) {X : jX} (hX : jRet X none none (fun v h' => v = none ∧ ∃ g' : Nat → Nat, h' = h0.set c (jN n2 g') ∧ ∀ k, g' k = if v2 ≤ k ∧ k < v2 + 41 then f (v1 + (k - v2)) else g k)) : ∀ (n i : Nat) (g' : Nat → Nat), 41 - i < n → i ≤ 41 → (∀ k, g' k = if v2 ≤ k ∧ k < v2 + i then f (v1 + (k - v2)) else g k) → jV cX7_copies RX7 0 X none 3 [some (.ref a), some (.int (nI v1)), some (.ref c), some (.int (nI v2)), some (.int (nI i))] [] (h0.set c (jN n2 g')) := by
  intro n
  induction n with
  | zero => intros; omega
  | succ n ih =>
    intro i g' hm hi hg
    refine e_il4 dX7_copies_3 ?_
    refine e_bipush (nI 41) dX7_copies_5 (by decide) ?_
    refine e_ic_geN 28 dX7_copies_7 (by decide) (by omega) (by omega) (fun c_7 => ?_) (fun c_7 => ?_)
    · exact e_ret hX dX7_copies_28 (⟨rfl, g', rfl, fun k => by rw [hg k, show i = 41 by omega]⟩) (fun z => z)
    · refine e_al2 dX7_copies_10 ?_
      refine e_il3 dX7_copies_11 ?_
      refine e_il4 dX7_copies_12 ?_
      refine e_iaddN dX7_copies_14 ?_
      refine e_al0 dX7_copies_15 ?_
      refine e_il1 dX7_copies_16 ?_
      refine e_il4 dX7_copies_17 ?_
      refine e_iaddN dX7_copies_19 ?_
      refine e_ialdN dX7_copies_20 (jset_ne hf (by omega)) (by omega) (by omega) ?_
      refine e_iastN dX7_copies_21 (jset_at ht) (by omega) (by omega) ?_
      rw [List.set_set]
      refine e_inc4N dX7_copies_22 rfl ?_
      refine e_goto 3 dX7_copies_25 (by decide) ?_
      refine ih (i + 1) _ (by omega) (by omega) (fun k => ?_)
      unfold va_up
      by_cases q : k = v2 + i
      · rw [if_pos q, if_pos (by omega), q, Nat.add_sub_cancel_left]
      · rw [if_neg q, hg k]
        by_cases q2 : v2 ≤ k ∧ k < v2 + i
        · rw [if_pos q2, if_pos (by omega)]
        · rw [if_neg q2, if_neg (by omega)]
set_option maxRecDepth 100000 in
set_option maxHeartbeats 4000000 in
theorem m_X7_copies {h0 : jH} {a c n1 n2 v1 v2 : Nat} {f g : Nat → Nat} (hf : h0[a]? = some (jN n1 f)) (ht : h0[c]? = some (jN n2 g)) (hac : c ≠ a) (h1 : v1 + 41 ≤ n1) (h2 : v2 + 41 ≤ n2) (hn1 : n1 < 10000) (hn2 : n2 < 10000) : jM yX7_copies cX7_copies 5 (none : Option Jvm.ClassFile.FieldType) 0 none [.ref a, .int (nI v1), .ref c, .int (nI v2)] h0 (fun v h' => v = none ∧ ∃ g' : Nat → Nat, h' = h0.set c (jN n2 g') ∧ ∀ k, g' k = if v2 ≤ k ∧ k < v2 + 41 then f (v1 + (k - v2)) else g k) := by
  refine jM.ofF (by decide +kernel) rfl (Nat.le_of_ble_eq_true rfl) (fun X hX hI => ?_)
  show jV cX7_copies RX7 0 X none 0 [some (.ref a), some (.int (nI v1)), some (.ref c), some (.int (nI v2)), none] [] h0
  refine e_iconst (nI 0) dX7_copies_0 (by decide) ?_
  refine e_is4 dX7_copies_1 rfl ?_
  rw [← jset_same ht]
  exact lp_X7_copies hf ht hac h1 h2 hn1 hn2 hX 42 0 g (by omega) (by omega) (fun k => by rw [if_neg (by omega)])
set_option maxRecDepth 100000 in
set_option maxHeartbeats 4000000 in
theorem m_X7_isWarm {h : jH} {a : Nat} {w : hw} (hW : h[a]? = some (jN 41 w)) (h0 : w 0 ≤ 15) (h4 : w 4 < 2 ^ 31) : jM yX7_isWarm cX7_isWarm 1 (some .boolean) 1 none [.ref a] h (jRt (.int (jb (s_warm w = 1))) h) := by
  refine jM.ofF (by decide +kernel) rfl (Nat.le_of_ble_eq_true rfl) (fun X hX hI => ?_)
  show jV cX7_isWarm RX7 1 X none 0 [some (.ref a)] [] h
  refine e_al0 dX7_isWarm_0 ?_
  refine e_iconst (nI 0) dX7_isWarm_1 (by decide) ?_
  refine e_ialdN dX7_isWarm_2 hW (by omega) (by decide) ?_
  refine e_al0 dX7_isWarm_3 ?_
  refine e_iconst (nI 4) dX7_isWarm_4 (by decide) ?_
  refine e_ialdN dX7_isWarm_5 hW (by omega) (by decide) ?_
  refine e_iconst (nI 4) dX7_isWarm_6 (by decide) ?_
  refine e_iremN dX7_isWarm_7 (by omega) (by omega) (by omega) ?_
  refine e_cs dX7_isWarm_8 sX7_154 (m_X7_has (by omega) (by omega)) (by decide) rfl rfl (Nat.le_of_ble_eq_true rfl) jBud0 ?_
  rintro _ _ ⟨rfl, rfl⟩
  exact e_zret hX dX7_isWarm_11 jb_nar (jRt_b Iff.rfl) (fun z => z)
set_option maxRecDepth 100000 in
set_option maxHeartbeats 4000000 in
theorem m_X7_blows {h : jH} {a : Nat} {w : hw} (hW : h[a]? = some (jN 41 w)) {i : Nat} (hi : i < 7) (hg : w (13 + 4 * i + 3) ≤ 1) (hb : w (13 + 4 * i + 1) ≤ 40) : jM yX7_blows cX7_blows 3 (some .int) 1 none [.ref a, .int (nI i)] h (jRt (.int (nI (s_blow w i))) h) := by
  refine jM.ofF (by decide +kernel) rfl (Nat.le_of_ble_eq_true rfl) (fun X hX hI => ?_)
  show jV cX7_blows RX7 1 X none 0 [some (.ref a), some (.int (nI i)), none] [] h
  refine e_bipush (nI 13) dX7_blows_0 (by decide) ?_
  refine e_iconst (nI 4) dX7_blows_2 (by decide) ?_
  refine e_il1 dX7_blows_3 ?_
  refine e_imulN dX7_blows_4 ?_
  refine e_iaddN dX7_blows_5 ?_
  refine e_is2 dX7_blows_6 rfl ?_
  refine e_al0 dX7_blows_7 ?_
  refine e_il2 dX7_blows_8 ?_
  refine e_iconst (nI 3) dX7_blows_9 (by decide) ?_
  refine e_iaddN dX7_blows_10 ?_
  refine e_ialdN dX7_blows_11 hW (by omega) (by decide) ?_
  refine e_iconst (nI 1) dX7_blows_12 (by decide) ?_
  refine e_ic_neN 20 dX7_blows_13 (by decide) (by omega) (by omega) (fun c_13 => ?_) (fun c_13 => ?_)
  · refine e_iconst (nI 4) dX7_blows_20 (by decide) ?_
    refine e_al0 dX7_blows_21 ?_
    refine e_il2 dX7_blows_22 ?_
    refine e_iconst (nI 1) dX7_blows_23 (by decide) ?_
    refine e_iaddN dX7_blows_24 ?_
    refine e_ialdN dX7_blows_25 hW (by omega) (by decide) ?_
    refine e_cs dX7_blows_26 sX7_158 (m_X7_lesser (by omega) (by omega)) (by decide) rfl rfl (Nat.le_of_ble_eq_true rfl) jBud0 ?_
    rintro _ _ ⟨rfl, rfl⟩
    exact e_iret hX dX7_blows_29 (by refine jRt_e (congrArg nI ?_); unfold s_blow; split <;> omega) (fun z => z)
  · refine e_iconst (nI 0) dX7_blows_16 (by decide) ?_
    refine e_goto 29 dX7_blows_17 (by decide) ?_
    exact e_iret hX dX7_blows_29 (by refine jRt_e (congrArg nI ?_); unfold s_blow; split <;> omega) (fun z => z)
theorem n_ge0 {a b : Nat} (ha : a < 1000) (hb : b < 1000) : 0 ≤ nI a - nI b ↔ b ≤ a := by
  rw [fa_le, pk_sub_toInt (by omega) (by omega)]
  show (0 : Int) ≤ _ ↔ _
  omega
theorem n_subge {a b : Nat} (ha : a < 1000) (hb : b < 1000) (h : 0 ≤ nI a - nI b) : nI a - nI b = nI (a - b) := pk_sub ((n_ge0 ha hb).mp h)
theorem n_subneg {a b : Nat} (ha : a < 1000) (hb : b < 1000) (h : ¬ 0 ≤ nI a - nI b) : a < b := Nat.not_le.mp (fun q => h ((n_ge0 ha hb).mpr q))
theorem n_subsub (a b c : Nat) : nI a - nI b - nI c = nI a - nI (b + c) := by
  rw [← nI_add]
  apply Int32.toBitVec_inj.1
  show (nI a).toBitVec - (nI b).toBitVec - (nI c).toBitVec = (nI a).toBitVec - ((nI b).toBitVec + (nI c).toBitVec)
  generalize (nI a).toBitVec = x
  generalize (nI b).toBitVec = y
  generalize (nI c).toBitVec = z
  apply BitVec.eq_of_toNat_eq
  simp only [BitVec.toNat_sub, BitVec.toNat_add]
  omega
theorem n_sub3 {a b c : Nat} (ha : a < 1000) (hb : b + c < 1000) (h : 0 ≤ nI a - nI b - nI c) : nI a - nI b - nI c = nI (a - (b + c)) := by
  rw [n_subsub] at h ⊢
  exact n_subge ha hb h
theorem n_sub3n {a b c : Nat} (ha : a < 1000) (hb : b + c < 1000) (h : ¬ 0 ≤ nI a - nI b - nI c) : a < b + c := by
  rw [n_subsub] at h
  exact n_subneg ha hb h
set_option maxRecDepth 100000 in
set_option maxHeartbeats 4000000 in
theorem m_X7_keeps {h : jH} {a : Nat} {w : hw} (hW : h[a]? = some (jN 41 w)) (ok : g_ok w) {i : Nat} (hi : i < w 3) (h4 : w 4 < 2 ^ 31) : jM yX7_keeps cX7_keeps 6 (some .int) 2 none [.ref a, .int (nI i)] h (jRt (.int (nI (s_keep w i))) h) := by
  obtain ⟨k0, k1, k2, k3, k4, k5⟩ := id ok
  have k5i := k5 i hi
  have hwl := s_warm_le w
  have hbl := s_blow_le2 w i
  have k4i := k4 (w (13 + 4 * i + 2)) (by omega)
  refine jM.ofF (by decide +kernel) rfl (Nat.le_of_ble_eq_true rfl) (fun X hX hI => ?_)
  show jV cX7_keeps RX7 2 X none 0 [some (.ref a), some (.int (nI i)), none, none, none, none] [] h
  refine e_bipush (nI 13) dX7_keeps_0 (by decide) ?_
  refine e_iconst (nI 4) dX7_keeps_2 (by decide) ?_
  refine e_il1 dX7_keeps_3 ?_
  refine e_imulN dX7_keeps_4 ?_
  refine e_iaddN dX7_keeps_5 ?_
  refine e_is2 dX7_keeps_6 rfl ?_
  refine e_al0 dX7_keeps_7 ?_
  refine e_il2 dX7_keeps_8 ?_
  refine e_iconst (nI 1) dX7_keeps_9 (by decide) ?_
  refine e_iaddN dX7_keeps_10 ?_
  refine e_ialdN dX7_keeps_11 hW (by omega) (by decide) ?_
  refine e_is3 dX7_keeps_12 rfl ?_
  refine e_al0 dX7_keeps_13 ?_
  refine e_cs dX7_keeps_14 sX7_161 (m_X7_isWarm hW (by omega) h4) (by decide) rfl rfl (Nat.le_of_ble_eq_true rfl) jBud0 ?_
  rintro _ _ ⟨rfl, rfl⟩
  refine e_if_eqB 24 dX7_keeps_17 (by decide) (fun c_17 => ?_) (fun c_17 => ?_)
  · refine e_iconst (nI 0) dX7_keeps_24 (by decide) ?_
    refine e_is4 dX7_keeps_25 rfl ?_
    refine e_al0 dX7_keeps_27 ?_
    refine e_il2 dX7_keeps_28 ?_
    refine e_iconst (nI 3) dX7_keeps_29 (by decide) ?_
    refine e_iaddN dX7_keeps_30 ?_
    refine e_ialdN dX7_keeps_31 hW (by omega) (by decide) ?_
    refine e_if_neN 43 dX7_keeps_32 (by decide) (by omega) (fun c_32 => ?_) (fun c_32 => ?_)
    · refine e_il3 dX7_keeps_43 ?_
      refine e_is5 dX7_keeps_44 rfl ?_
      refine e_al0 dX7_keeps_46 ?_
      refine e_il2 dX7_keeps_47 ?_
      refine e_ialdN dX7_keeps_48 hW (by omega) (by decide) ?_
      rcases (show w (13 + 4 * i) = 1 ∨ w (13 + 4 * i) = 2 ∨ w (13 + 4 * i) = 3 ∨ w (13 + 4 * i) = 4 ∨ w (13 + 4 * i) = 5 by omega) with e | e | e | e | e
      · rw [e]
        refine e_tin 80 dX7_keeps_49 (by decide) (by decide) rfl (by decide) ?_
        refine e_il3 dX7_keeps_80 ?_
        refine e_il4 dX7_keeps_81 ?_
        refine e_isub dX7_keeps_83 ?_
        refine e_is5 dX7_keeps_84 rfl ?_
        refine e_goto 144 dX7_keeps_86 (by decide) ?_
        refine e_il5 dX7_keeps_144 ?_
        refine e_if_ge 153 dX7_keeps_146 (by decide) (fun c_146 => ?_) (fun c_146 => ?_)
        · refine e_il5 dX7_keeps_153 ?_
          exact e_iret hX dX7_keeps_155 (jRt_e (Eq.trans (n_subge (by omega) (by omega) c_146) (congrArg nI (by unfold s_keep s_leak; (repeat' split) <;> omega)))) (fun z => z)
        · refine e_iconst (nI 0) dX7_keeps_149 (by decide) ?_
          refine e_goto 155 dX7_keeps_150 (by decide) ?_
          exact e_iret hX dX7_keeps_155 (jRt_e (congrArg nI (by have := n_subneg (by omega) (by omega) c_146; unfold s_keep s_leak; (repeat' split) <;> omega))) (fun z => z)
      · rw [e]
        refine e_tin 89 dX7_keeps_49 (by decide) (by decide) rfl (by decide) ?_
        refine e_il3 dX7_keeps_89 ?_
        refine e_iconst (nI 2) dX7_keeps_90 (by decide) ?_
        refine e_il4 dX7_keeps_91 ?_
        refine e_imulN dX7_keeps_93 ?_
        refine e_isub dX7_keeps_94 ?_
        refine e_iconst (nI 1) dX7_keeps_95 (by decide) ?_
        refine e_isub dX7_keeps_96 ?_
        refine e_is5 dX7_keeps_97 rfl ?_
        refine e_goto 144 dX7_keeps_99 (by decide) ?_
        refine e_il5 dX7_keeps_144 ?_
        refine e_if_ge 153 dX7_keeps_146 (by decide) (fun c_146 => ?_) (fun c_146 => ?_)
        · refine e_il5 dX7_keeps_153 ?_
          exact e_iret hX dX7_keeps_155 (jRt_e (Eq.trans (n_sub3 (by omega) (by omega) c_146) (congrArg nI (by unfold s_keep s_leak; (repeat' split) <;> omega)))) (fun z => z)
        · refine e_iconst (nI 0) dX7_keeps_149 (by decide) ?_
          refine e_goto 155 dX7_keeps_150 (by decide) ?_
          exact e_iret hX dX7_keeps_155 (jRt_e (congrArg nI (by have := n_sub3n (by omega) (by omega) c_146; unfold s_keep s_leak; (repeat' split) <;> omega))) (fun z => z)
      · rw [e]
        refine e_tin 102 dX7_keeps_49 (by decide) (by decide) rfl (by decide) ?_
        refine e_al0 dX7_keeps_102 ?_
        refine e_iconst (nI 5) dX7_keeps_103 (by decide) ?_
        refine e_al0 dX7_keeps_104 ?_
        refine e_il2 dX7_keeps_105 ?_
        refine e_iconst (nI 2) dX7_keeps_106 (by decide) ?_
        refine e_iaddN dX7_keeps_107 ?_
        refine e_ialdN dX7_keeps_108 hW (by omega) (by decide) ?_
        refine e_iaddN dX7_keeps_109 ?_
        refine e_ialdN dX7_keeps_110 hW (by omega) (by decide) ?_
        refine e_if_leN 118 dX7_keeps_111 (by decide) (by omega) (fun c_111 => ?_) (fun c_111 => ?_)
        · refine e_il3 dX7_keeps_118 ?_
          refine e_il4 dX7_keeps_119 ?_
          refine e_isub dX7_keeps_121 ?_
          refine e_is5 dX7_keeps_122 rfl ?_
          refine e_goto 144 dX7_keeps_124 (by decide) ?_
          refine e_il5 dX7_keeps_144 ?_
          refine e_if_ge 153 dX7_keeps_146 (by decide) (fun c_146 => ?_) (fun c_146 => ?_)
          · refine e_il5 dX7_keeps_153 ?_
            exact e_iret hX dX7_keeps_155 (jRt_e (Eq.trans (n_subge (by omega) (by omega) c_146) (congrArg nI (by unfold s_keep s_leak; (repeat' split) <;> omega)))) (fun z => z)
          · refine e_iconst (nI 0) dX7_keeps_149 (by decide) ?_
            refine e_goto 155 dX7_keeps_150 (by decide) ?_
            exact e_iret hX dX7_keeps_155 (jRt_e (congrArg nI (by have := n_subneg (by omega) (by omega) c_146; unfold s_keep s_leak; (repeat' split) <;> omega))) (fun z => z)
        · refine e_il3 dX7_keeps_114 ?_
          refine e_goto 122 dX7_keeps_115 (by decide) ?_
          refine e_is5 dX7_keeps_122 rfl ?_
          refine e_goto 144 dX7_keeps_124 (by decide) ?_
          refine e_il5 dX7_keeps_144 ?_
          refine e_if_geN 153 dX7_keeps_146 (by decide) (by omega) ?_
          refine e_il5 dX7_keeps_153 ?_
          exact e_iret hX dX7_keeps_155 (jRt_e (congrArg nI (by unfold s_keep s_leak; (repeat' split) <;> omega))) (fun z => z)
      · rw [e]
        refine e_tin 127 dX7_keeps_49 (by decide) (by decide) rfl (by decide) ?_
        refine e_il3 dX7_keeps_127 ?_
        refine e_is5 dX7_keeps_128 rfl ?_
        refine e_goto 144 dX7_keeps_130 (by decide) ?_
        refine e_il5 dX7_keeps_144 ?_
        refine e_if_geN 153 dX7_keeps_146 (by decide) (by omega) ?_
        refine e_il5 dX7_keeps_153 ?_
        exact e_iret hX dX7_keeps_155 (jRt_e (congrArg nI (by unfold s_keep s_leak; (repeat' split) <;> omega))) (fun z => z)
      · rw [e]
        refine e_tout 133 dX7_keeps_49 (by decide) (by decide) ?_
        refine e_bipush (nI 40) dX7_keeps_133 (by decide) ?_
        refine e_il3 dX7_keeps_135 ?_
        refine e_il4 dX7_keeps_136 ?_
        refine e_iaddN dX7_keeps_138 ?_
        refine e_cs dX7_keeps_139 sX7_158 (m_X7_lesser (by omega) (by omega)) (by decide) rfl rfl (Nat.le_of_ble_eq_true rfl) jBud0 ?_
        rintro _ _ ⟨rfl, rfl⟩
        refine e_is5 dX7_keeps_142 rfl ?_
        refine e_il5 dX7_keeps_144 ?_
        refine e_if_geN 153 dX7_keeps_146 (by decide) (by omega) ?_
        refine e_il5 dX7_keeps_153 ?_
        exact e_iret hX dX7_keeps_155 (jRt_e (congrArg nI (by unfold s_keep s_leak; (repeat' split) <;> omega))) (fun z => z)
      
    · refine e_il3 dX7_keeps_35 ?_
      refine e_al0 dX7_keeps_36 ?_
      refine e_il1 dX7_keeps_37 ?_
      refine e_cs dX7_keeps_38 sX7_165 (m_X7_blows hW (by omega) (by omega) (by omega)) (by decide) rfl rfl (Nat.le_of_ble_eq_true rfl) jBud0 ?_
      rintro _ _ ⟨rfl, rfl⟩
      refine e_isubN dX7_keeps_41 (by omega) ?_
      exact e_iret hX dX7_keeps_42 (jRt_e (congrArg nI (by unfold s_keep s_leak; (repeat' split) <;> omega))) (fun z => z)
  · refine e_iconst (nI 1) dX7_keeps_20 (by decide) ?_
    refine e_goto 25 dX7_keeps_21 (by decide) ?_
    refine e_is4 dX7_keeps_25 rfl ?_
    refine e_al0 dX7_keeps_27 ?_
    refine e_il2 dX7_keeps_28 ?_
    refine e_iconst (nI 3) dX7_keeps_29 (by decide) ?_
    refine e_iaddN dX7_keeps_30 ?_
    refine e_ialdN dX7_keeps_31 hW (by omega) (by decide) ?_
    refine e_if_neN 43 dX7_keeps_32 (by decide) (by omega) (fun c_32 => ?_) (fun c_32 => ?_)
    · refine e_il3 dX7_keeps_43 ?_
      refine e_is5 dX7_keeps_44 rfl ?_
      refine e_al0 dX7_keeps_46 ?_
      refine e_il2 dX7_keeps_47 ?_
      refine e_ialdN dX7_keeps_48 hW (by omega) (by decide) ?_
      rcases (show w (13 + 4 * i) = 1 ∨ w (13 + 4 * i) = 2 ∨ w (13 + 4 * i) = 3 ∨ w (13 + 4 * i) = 4 ∨ w (13 + 4 * i) = 5 by omega) with e | e | e | e | e
      · rw [e]
        refine e_tin 80 dX7_keeps_49 (by decide) (by decide) rfl (by decide) ?_
        refine e_il3 dX7_keeps_80 ?_
        refine e_il4 dX7_keeps_81 ?_
        refine e_isub dX7_keeps_83 ?_
        refine e_is5 dX7_keeps_84 rfl ?_
        refine e_goto 144 dX7_keeps_86 (by decide) ?_
        refine e_il5 dX7_keeps_144 ?_
        refine e_if_ge 153 dX7_keeps_146 (by decide) (fun c_146 => ?_) (fun c_146 => ?_)
        · refine e_il5 dX7_keeps_153 ?_
          exact e_iret hX dX7_keeps_155 (jRt_e (Eq.trans (n_subge (by omega) (by omega) c_146) (congrArg nI (by unfold s_keep s_leak; (repeat' split) <;> omega)))) (fun z => z)
        · refine e_iconst (nI 0) dX7_keeps_149 (by decide) ?_
          refine e_goto 155 dX7_keeps_150 (by decide) ?_
          exact e_iret hX dX7_keeps_155 (jRt_e (congrArg nI (by have := n_subneg (by omega) (by omega) c_146; unfold s_keep s_leak; (repeat' split) <;> omega))) (fun z => z)
      · rw [e]
        refine e_tin 89 dX7_keeps_49 (by decide) (by decide) rfl (by decide) ?_
        refine e_il3 dX7_keeps_89 ?_
        refine e_iconst (nI 2) dX7_keeps_90 (by decide) ?_
        refine e_il4 dX7_keeps_91 ?_
        refine e_imulN dX7_keeps_93 ?_
        refine e_isub dX7_keeps_94 ?_
        refine e_iconst (nI 1) dX7_keeps_95 (by decide) ?_
        refine e_isub dX7_keeps_96 ?_
        refine e_is5 dX7_keeps_97 rfl ?_
        refine e_goto 144 dX7_keeps_99 (by decide) ?_
        refine e_il5 dX7_keeps_144 ?_
        refine e_if_ge 153 dX7_keeps_146 (by decide) (fun c_146 => ?_) (fun c_146 => ?_)
        · refine e_il5 dX7_keeps_153 ?_
          exact e_iret hX dX7_keeps_155 (jRt_e (Eq.trans (n_sub3 (by omega) (by omega) c_146) (congrArg nI (by unfold s_keep s_leak; (repeat' split) <;> omega)))) (fun z => z)
        · refine e_iconst (nI 0) dX7_keeps_149 (by decide) ?_
          refine e_goto 155 dX7_keeps_150 (by decide) ?_
          exact e_iret hX dX7_keeps_155 (jRt_e (congrArg nI (by have := n_sub3n (by omega) (by omega) c_146; unfold s_keep s_leak; (repeat' split) <;> omega))) (fun z => z)
      · rw [e]
        refine e_tin 102 dX7_keeps_49 (by decide) (by decide) rfl (by decide) ?_
        refine e_al0 dX7_keeps_102 ?_
        refine e_iconst (nI 5) dX7_keeps_103 (by decide) ?_
        refine e_al0 dX7_keeps_104 ?_
        refine e_il2 dX7_keeps_105 ?_
        refine e_iconst (nI 2) dX7_keeps_106 (by decide) ?_
        refine e_iaddN dX7_keeps_107 ?_
        refine e_ialdN dX7_keeps_108 hW (by omega) (by decide) ?_
        refine e_iaddN dX7_keeps_109 ?_
        refine e_ialdN dX7_keeps_110 hW (by omega) (by decide) ?_
        refine e_if_leN 118 dX7_keeps_111 (by decide) (by omega) (fun c_111 => ?_) (fun c_111 => ?_)
        · refine e_il3 dX7_keeps_118 ?_
          refine e_il4 dX7_keeps_119 ?_
          refine e_isub dX7_keeps_121 ?_
          refine e_is5 dX7_keeps_122 rfl ?_
          refine e_goto 144 dX7_keeps_124 (by decide) ?_
          refine e_il5 dX7_keeps_144 ?_
          refine e_if_ge 153 dX7_keeps_146 (by decide) (fun c_146 => ?_) (fun c_146 => ?_)
          · refine e_il5 dX7_keeps_153 ?_
            exact e_iret hX dX7_keeps_155 (jRt_e (Eq.trans (n_subge (by omega) (by omega) c_146) (congrArg nI (by unfold s_keep s_leak; (repeat' split) <;> omega)))) (fun z => z)
          · refine e_iconst (nI 0) dX7_keeps_149 (by decide) ?_
            refine e_goto 155 dX7_keeps_150 (by decide) ?_
            exact e_iret hX dX7_keeps_155 (jRt_e (congrArg nI (by have := n_subneg (by omega) (by omega) c_146; unfold s_keep s_leak; (repeat' split) <;> omega))) (fun z => z)
        · refine e_il3 dX7_keeps_114 ?_
          refine e_goto 122 dX7_keeps_115 (by decide) ?_
          refine e_is5 dX7_keeps_122 rfl ?_
          refine e_goto 144 dX7_keeps_124 (by decide) ?_
          refine e_il5 dX7_keeps_144 ?_
          refine e_if_geN 153 dX7_keeps_146 (by decide) (by omega) ?_
          refine e_il5 dX7_keeps_153 ?_
          exact e_iret hX dX7_keeps_155 (jRt_e (congrArg nI (by unfold s_keep s_leak; (repeat' split) <;> omega))) (fun z => z)
      · rw [e]
        refine e_tin 127 dX7_keeps_49 (by decide) (by decide) rfl (by decide) ?_
        refine e_il3 dX7_keeps_127 ?_
        refine e_is5 dX7_keeps_128 rfl ?_
        refine e_goto 144 dX7_keeps_130 (by decide) ?_
        refine e_il5 dX7_keeps_144 ?_
        refine e_if_geN 153 dX7_keeps_146 (by decide) (by omega) ?_
        refine e_il5 dX7_keeps_153 ?_
        exact e_iret hX dX7_keeps_155 (jRt_e (congrArg nI (by unfold s_keep s_leak; (repeat' split) <;> omega))) (fun z => z)
      · rw [e]
        refine e_tout 133 dX7_keeps_49 (by decide) (by decide) ?_
        refine e_bipush (nI 40) dX7_keeps_133 (by decide) ?_
        refine e_il3 dX7_keeps_135 ?_
        refine e_il4 dX7_keeps_136 ?_
        refine e_iaddN dX7_keeps_138 ?_
        refine e_cs dX7_keeps_139 sX7_158 (m_X7_lesser (by omega) (by omega)) (by decide) rfl rfl (Nat.le_of_ble_eq_true rfl) jBud0 ?_
        rintro _ _ ⟨rfl, rfl⟩
        refine e_is5 dX7_keeps_142 rfl ?_
        refine e_il5 dX7_keeps_144 ?_
        refine e_if_geN 153 dX7_keeps_146 (by decide) (by omega) ?_
        refine e_il5 dX7_keeps_153 ?_
        exact e_iret hX dX7_keeps_155 (jRt_e (congrArg nI (by unfold s_keep s_leak; (repeat' split) <;> omega))) (fun z => z)
      
    · refine e_il3 dX7_keeps_35 ?_
      refine e_al0 dX7_keeps_36 ?_
      refine e_il1 dX7_keeps_37 ?_
      refine e_cs dX7_keeps_38 sX7_165 (m_X7_blows hW (by omega) (by omega) (by omega)) (by decide) rfl rfl (Nat.le_of_ble_eq_true rfl) jBud0 ?_
      rintro _ _ ⟨rfl, rfl⟩
      refine e_isubN dX7_keeps_41 (by omega) ?_
      exact e_iret hX dX7_keeps_42 (jRt_e (congrArg nI (by unfold s_keep s_leak; (repeat' split) <;> omega))) (fun z => z)
