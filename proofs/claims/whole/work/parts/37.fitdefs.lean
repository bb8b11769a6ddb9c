/-! what fits -/
abbrev s_tld (u : hw) (p n : Nat) (TT : Nat → Int32) : Prop := ∀ d, d < n → nI (s_it (d + 1) u (13 + 4 * p + 1)) = TT d
def s_spl (p wh : Nat) : Nat := if wh = 0 then 13 + 4 * p else if wh = 1 then 0 else if wh = 2 then 13 + 4 * p + 3 else 13 + 4 * p + 1
def s_lo (wh : Nat) : Nat := if wh = 0 then 1 else 0
def s_hi (wh : Nat) : Nat := if wh = 0 then 5 else if wh = 1 then 15 else if wh = 2 then 1 else 40
theorem tb_lo : ∀ {wh : Nat}, wh < 5 → ([1, 0, 0, 0, 0] : List Int32).getD wh 0 = nI (s_lo wh) := by decide +kernel
theorem tb_hi : ∀ {wh : Nat}, wh < 5 → ([5, 15, 1, 40, 40] : List Int32).getD wh 0 = nI (s_hi wh) := by decide +kernel
theorem s_lohi : ∀ {wh : Nat}, wh < 5 → s_lo wh ≤ s_hi wh ∧ s_hi wh ≤ 40 ∧ (wh < 3 → s_hi wh ≤ 15) ∧ (3 ≤ wh → s_hi wh = 40 ∧ s_lo wh = 0) := by decide +kernel
theorem HV.setk {w : hw} {f k b p g : Nat → Nat} {i v : Nat} (hV : HV w f k b p g) (h2 : w 2 ≤ 8) : HV (va_up w (13 + 4 * i) v) f (va_up k i v) b p g := by
  unfold HV va_up
  rw [if_neg (by omega), if_neg (by omega)]
  refine ⟨fun j hj => ?_, fun q hq => ?_⟩
  · rw [if_neg (by omega)]; exact hV.1 j hj
  · obtain ⟨a1, a2, a3, a4⟩ := hV.2 q hq
    rw [if_neg (show ¬ 13 + 4 * q + 1 = 13 + 4 * i by omega), if_neg (show ¬ 13 + 4 * q + 2 = 13 + 4 * i by omega), if_neg (show ¬ 13 + 4 * q + 3 = 13 + 4 * i by omega)]
    refine ⟨?_, a2, a3, a4⟩
    by_cases e : q = i
    · rw [if_pos e, if_pos (by omega)]
    · rw [if_neg e, if_neg (by omega)]; exact a1
theorem HV.setb {w : hw} {f k b p g : Nat → Nat} {i v : Nat} (hV : HV w f k b p g) (h2 : w 2 ≤ 8) : HV (va_up w (13 + 4 * i + 1) v) f k (va_up b i v) p g := by
  unfold HV va_up
  rw [if_neg (by omega), if_neg (by omega)]
  refine ⟨fun j hj => ?_, fun q hq => ?_⟩
  · rw [if_neg (by omega)]; exact hV.1 j hj
  · obtain ⟨a1, a2, a3, a4⟩ := hV.2 q hq
    rw [if_neg (show ¬ 13 + 4 * q = 13 + 4 * i + 1 by omega), if_neg (show ¬ 13 + 4 * q + 2 = 13 + 4 * i + 1 by omega), if_neg (show ¬ 13 + 4 * q + 3 = 13 + 4 * i + 1 by omega)]
    refine ⟨a1, ?_, a3, a4⟩
    by_cases e : q = i
    · rw [if_pos e, if_pos (by omega)]
    · rw [if_neg e, if_neg (by omega)]; exact a2
theorem g_ok.kind {w : hw} {i v : Nat} (ok : g_ok w) (hv : 1 ≤ v) (hv2 : v ≤ 5) : g_ok (va_up w (13 + 4 * i) v) := by
  obtain ⟨h0, h1, h2, h3, h4, h5⟩ := ok
  unfold g_ok va_up
  rw [if_neg (by omega), if_neg (by omega), if_neg (by omega), if_neg (by omega)]
  refine ⟨h0, h1, h2, h3, fun j hj => ?_, fun q hq => ?_⟩
  · rw [if_neg (by omega)]; exact h4 j hj
  · obtain ⟨a1, a2, a3, a4, a5⟩ := h5 q hq
    rw [if_neg (show ¬ 13 + 4 * q + 1 = 13 + 4 * i by omega), if_neg (show ¬ 13 + 4 * q + 2 = 13 + 4 * i by omega), if_neg (show ¬ 13 + 4 * q + 3 = 13 + 4 * i by omega)]
    refine ⟨?_, ?_, a3, a4, a5⟩
    · split
      · exact hv
      · exact a1
    · split
      · exact hv2
      · exact a2
theorem g_ok.brth {w : hw} {i v : Nat} (ok : g_ok w) (hv : v ≤ 40) : g_ok (va_up w (13 + 4 * i + 1) v) := by
  obtain ⟨h0, h1, h2, h3, h4, h5⟩ := ok
  unfold g_ok va_up
  rw [if_neg (by omega), if_neg (by omega), if_neg (by omega), if_neg (by omega)]
  refine ⟨h0, h1, h2, h3, fun j hj => ?_, fun q hq => ?_⟩
  · rw [if_neg (by omega)]; exact h4 j hj
  · obtain ⟨a1, a2, a3, a4, a5⟩ := h5 q hq
    rw [if_neg (show ¬ 13 + 4 * q = 13 + 4 * i + 1 by omega), if_neg (show ¬ 13 + 4 * q + 2 = 13 + 4 * i + 1 by omega), if_neg (show ¬ 13 + 4 * q + 3 = 13 + 4 * i + 1 by omega)]
    refine ⟨a1, a2, ?_, a4, a5⟩
    split
    · exact hv
    · exact a3
theorem s_sup_ok {w : hw} {p wh v : Nat} (ok : g_ok w) (h5 : wh < 5) (h1 : s_lo wh ≤ v) (h2 : v ≤ s_hi wh) : g_ok (va_up w (s_spl p wh) v) := by
  unfold s_spl
  unfold s_lo at h1
  unfold s_hi at h2
  by_cases c0 : wh = 0
  · rw [if_pos c0] at *
    exact ok.kind h1 h2
  · rw [if_neg c0] at *
    by_cases c1 : wh = 1
    · rw [if_pos c1] at *
      exact ok.warm h2
    · rw [if_neg c1] at *
      by_cases c2 : wh = 2
      · rw [if_pos c2] at *
        exact ok.peg h2
      · rw [if_neg c2] at *
        exact ok.brth h2
theorem s_sup_4 {w : hw} {p wh v : Nat} : va_up w (s_spl p wh) v 4 = w 4 := by
  refine up_ne ?_
  unfold s_spl
  repeat' split
  all_goals omega
theorem cTr.kd {h0 h h1 : jH} {u : hw} {f k b p g z : Nat → Nat} {i v : Nat} (t : cTr h0 h u) (hC : HC h 207 u f k b p g z) (hV : HV u f k b p g) (h2 : u 2 ≤ 8) (hh : h1 = h.set (207 + 2) (jN 7 (va_up k i v))) : cTr h0 h1 (va_up u (13 + 4 * i) v) :=
  ⟨jhs hh t.1 (by omega), ⟨_, _, _, _, _, _, (HC.hsetk hh hC).w (va_up_ge (by omega)), hV.setk h2⟩, jEq.hs hh t.2.2 (by unfold jIn; omega)⟩
theorem cTr.br {h0 h h1 : jH} {u : hw} {f k b p g z : Nat → Nat} {i v : Nat} (t : cTr h0 h u) (hC : HC h 207 u f k b p g z) (hV : HV u f k b p g) (h2 : u 2 ≤ 8) (hh : h1 = h.set (207 + 3) (jN 7 (va_up b i v))) : cTr h0 h1 (va_up u (13 + 4 * i + 1) v) :=
  ⟨jhs hh t.1 (by omega), ⟨_, _, _, _, _, _, (HC.hsetb hh hC).w (va_up_ge (by omega)), hV.setb h2⟩, jEq.hs hh t.2.2 (by unfold jIn; omega)⟩
theorem cTr.wm {h0 h h1 : jH} {u : hw} {f k b p g z : Nat → Nat} {v : Nat} (t : cTr h0 h u) (hC : HC h 207 u f k b p g z) (hV : HV u f k b p g) (hh : h1 = h.set 207 (jO 3 [.int (nI (u 4)), .int (nI v), .int (nI (u 1)), .int (nI (u 2)), .int (nI (u 3)), .ref (207 + 1), .ref (207 + 2), .ref (207 + 3), .ref (207 + 4), .ref (207 + 5), .ref (207 + 6)])) : cTr h0 h1 (va_up u 0 v) :=
  ⟨jhs hh t.1 (by omega), ⟨_, _, _, _, _, _, (by rw [hh]; exact hC.set0 (w' := va_up u 0 v)), hV.set0⟩, jEq.hs hh t.2.2 (by unfold jIn; omega)⟩
/-- set, number, least of those that fit, from lo on -/
abbrev s_L (w : hw) (p n : Nat) (TT : Nat → Int32) (wh v : Nat) : Prop := s_tld (va_up w (s_spl p wh) v) p n TT
def s_fs (w : hw) (p n : Nat) (TT : Nat → Int32) (wh : Nat) : Nat → Nat
  | 0 => 0
  | k + 1 => if s_L w p n TT wh (s_lo wh + k) then s_fs w p n TT wh k ||| 2 ^ (s_lo wh + k) else s_fs w p n TT wh k
def s_fm (w : hw) (p n : Nat) (TT : Nat → Int32) (wh : Nat) : Nat → Nat
  | 0 => 0
  | k + 1 => if s_L w p n TT wh (s_lo wh + k) then s_fm w p n TT wh k + 1 else s_fm w p n TT wh k
def s_fl (w : hw) (p n : Nat) (TT : Nat → Int32) (wh : Nat) : Nat → Int32
  | 0 => -1000000
  | k + 1 => if s_L w p n TT wh (s_lo wh + k) then if s_fm w p n TT wh k = 0 then nI (s_lo wh + k) else s_fl w p n TT wh k else s_fl w p n TT wh k
theorem s_fm_le {w : hw} {p n : Nat} {TT : Nat → Int32} {wh : Nat} : ∀ k, s_fm w p n TT wh k ≤ k
  | 0 => Nat.le_refl _
  | k + 1 => by
    have := s_fm_le (w := w) (p := p) (n := n) (TT := TT) (wh := wh) k
    unfold s_fm
    split <;> omega
theorem s_fm_0 {w : hw} {p n : Nat} {TT : Nat → Int32} {wh : Nat} : ∀ k, s_fm w p n TT wh k = 0 → s_fl w p n TT wh k = -1000000
  | 0, _ => rfl
  | k + 1, h => by
    unfold s_fm at h
    unfold s_fl
    by_cases c : s_L w p n TT wh (s_lo wh + k)
    · rw [if_pos c] at h; omega
    · rw [if_neg c] at h ⊢
      exact s_fm_0 k h
/-- downwards -/
def s_dm (w : hw) (p n : Nat) (TT : Nat → Int32) (wh : Nat) : Nat → Nat
  | 0 => 0
  | j + 1 => s_dm w p n TT wh j + (if s_L w p n TT wh (40 - j) then 1 else 0)
def s_de (w : hw) (p n : Nat) (TT : Nat → Int32) (wh : Nat) : Nat → Int32
  | 0 => -1000000
  | j + 1 => if s_L w p n TT wh (40 - j) then nI (40 - j) else s_de w p n TT wh j
theorem s_dm_eq {w : hw} {p n : Nat} {TT : Nat → Int32} {wh : Nat} (h0 : s_lo wh = 0) : ∀ j, j ≤ 41 → s_fm w p n TT wh 41 = s_fm w p n TT wh (41 - j) + s_dm w p n TT wh j
  | 0, _ => rfl
  | j + 1, h => by
    have e : s_fm w p n TT wh (40 - j + 1) = if s_L w p n TT wh (s_lo wh + (40 - j)) then s_fm w p n TT wh (40 - j) + 1 else s_fm w p n TT wh (40 - j) := rfl
    rw [h0, Nat.zero_add] at e
    rw [s_dm_eq h0 j (by omega), show 41 - j = 40 - j + 1 by omega, e, show 41 - (j + 1) = 40 - j by omega, s_dm]
    split <;> omega
theorem s_de_eq {w : hw} {p n : Nat} {TT : Nat → Int32} {wh : Nat} (h0 : s_lo wh = 0) : ∀ j, j ≤ 41 → s_fl w p n TT wh 41 = if s_fm w p n TT wh (41 - j) = 0 then s_de w p n TT wh j else s_fl w p n TT wh (41 - j)
  | 0, _ => by
    by_cases c : s_fm w p n TT wh (41 - 0) = 0
    · rw [if_pos c]
      exact s_fm_0 41 c
    · rw [if_neg c]
  | j + 1, h => by
    have e : s_fm w p n TT wh (40 - j + 1) = if s_L w p n TT wh (s_lo wh + (40 - j)) then s_fm w p n TT wh (40 - j) + 1 else s_fm w p n TT wh (40 - j) := rfl
    have e2 : s_fl w p n TT wh (40 - j + 1) = if s_L w p n TT wh (s_lo wh + (40 - j)) then if s_fm w p n TT wh (40 - j) = 0 then nI (s_lo wh + (40 - j)) else s_fl w p n TT wh (40 - j) else s_fl w p n TT wh (40 - j) := rfl
    rw [h0, Nat.zero_add] at e e2
    rw [s_de_eq h0 j (by omega), show 41 - j = 40 - j + 1 by omega, e, e2, show 41 - (j + 1) = 40 - j by omega, s_de]
    by_cases c : s_L w p n TT wh (40 - j)
    · rw [if_pos c, if_pos c, if_pos c, if_neg (by omega)]
    · rw [if_neg c, if_neg c, if_neg c]
def s_fitA (w : hw) (p n : Nat) (TT : Nat → Int32) (wh : Nat) : Int32 := if wh < 3 then nI (s_fs w p n TT wh (s_hi wh + 1 - s_lo wh)) else if wh = 3 then nI (s_fm w p n TT wh (s_hi wh + 1 - s_lo wh)) else s_fl w p n TT wh (s_hi wh + 1 - s_lo wh)
def sp_fits (x r i n v : Int32) (S : jS) : Int32 × jS :=
  if iN x (S.2.2.1 3) then if iR r 0 7 then if iR n 1 12 then if iR v 0 4 then if S.1.2.1 r.toNatClampNeg = 3 then (-1000010 - nI 1, z_st S 1) else if iP i n (S.1.2.2.1 r.toNatClampNeg) then
    (s_fitA S.2.2.1 x.toNatClampNeg n.toNatClampNeg (fun d => S.1.2.2.2 r.toNatClampNeg (i.toNatClampNeg + d)) v.toNatClampNeg, z_st S 0)
    else (-1000010 - nI 2, z_st S 2) else (-1000001, S) else (-1000001, S) else (-1000001, S) else (-1000001, S)
theorem n_p16 : ∀ {i : Nat}, i < 16 → 1 * 2 ^ i < 2 ^ 32 := by decide +kernel
def s_dn (j : Nat) : Int32 := if j ≤ 40 then nI (40 - j) else -1
theorem s_dn_s : ∀ {j : Nat}, j ≤ 40 → nI (40 - j) + (-1) = s_dn (j + 1) := by decide +kernel
theorem s_fs_t {w : hw} {p n : Nat} {TT : Nat → Int32} {wh k : Nat} (h : s_L w p n TT wh (s_lo wh + k)) : s_fs w p n TT wh (k + 1) = s_fs w p n TT wh k ||| 2 ^ (s_lo wh + k) := if_pos h
theorem s_fs_f {w : hw} {p n : Nat} {TT : Nat → Int32} {wh k : Nat} (h : ¬ s_L w p n TT wh (s_lo wh + k)) : s_fs w p n TT wh (k + 1) = s_fs w p n TT wh k := if_neg h
theorem s_fm_t {w : hw} {p n : Nat} {TT : Nat → Int32} {wh k : Nat} (h : s_L w p n TT wh (s_lo wh + k)) : s_fm w p n TT wh (k + 1) = s_fm w p n TT wh k + 1 := if_pos h
theorem s_fm_f {w : hw} {p n : Nat} {TT : Nat → Int32} {wh k : Nat} (h : ¬ s_L w p n TT wh (s_lo wh + k)) : s_fm w p n TT wh (k + 1) = s_fm w p n TT wh k := if_neg h
theorem s_fl_t {w : hw} {p n : Nat} {TT : Nat → Int32} {wh k : Nat} (h : s_L w p n TT wh (s_lo wh + k)) : s_fl w p n TT wh (k + 1) = if s_fm w p n TT wh k = 0 then nI (s_lo wh + k) else s_fl w p n TT wh k := if_pos h
theorem s_fl_f {w : hw} {p n : Nat} {TT : Nat → Int32} {wh k : Nat} (h : ¬ s_L w p n TT wh (s_lo wh + k)) : s_fl w p n TT wh (k + 1) = s_fl w p n TT wh k := if_neg h
theorem s_tld_n {u : hw} {p d : Nat} {TT : Nat → Int32} (h : s_tld u p d TT) (e : nI (s_it (d + 1) u (13 + 4 * p + 1)) = TT d) : s_tld u p (d + 1) TT := fun q hq => by
  by_cases z : q = d
  · rw [z]; exact e
  · exact h q (by omega)
