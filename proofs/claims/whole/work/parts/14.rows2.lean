theorem jEq.st {h h1 : jH} {i : Nat} {c : jC} {P : Nat → Prop} (a : jEq h h1 P) (hi : P i) : jEq h (h1.set i c) P := a.tr (jEq.set (P := P) hi) (fun _ q => q) (fun _ q => q)
theorem jEq.mono {h h1 : jH} {P Q : Nat → Prop} (a : jEq h h1 P) (hPQ : ∀ j, P j → Q j) : jEq h h1 Q := ⟨a.1, fun j hj => a.2 j (fun q => hj (hPQ j q))⟩
theorem n_cpy (f g : Nat → Nat) (a b n : Nat) : va_cpy (fun k => nI (f k)) (fun k => nI (g k)) a b n = fun k => nI (va_cpy f g a b n k) := by
  funext k
  unfold va_cpy
  split <;> rfl
section JR2
variable {cc : ByteArray} {own : String} {d : Nat} {X : jX} {b : jB} {pc : Nat} {ls : List (Option Value)} {st : List Value} {h : jH}
theorem e_abs (k : ∀ h1 : jH, h1 = h → jV cc own d X b pc ls st h1) : jV cc own d X b pc ls st h := k h rfl
theorem e_copyN {i a0 a1 n0 n1 N : Nat} {f f1 : Nat → Nat} (hd : decode cc pc = .ok (.invokestatic i, 3)) (hl : Cond.methodLink own i arraycopyName ∈ jT) (hc0 : h[a0]? = some (jN n0 f)) (hc1 : h[a1]? = some (jN n1 f1)) (h0 : N ≤ n0) (h1 : N ≤ n1) (hN : N < 2 ^ 31) (hdd : 1 ≤ d) (hsum : (st.map fun v => v.category).sum ≤ 8)
    (k : jV cc own d X none (pc + 3) ls st (h.set a1 (jN n1 (va_cpy f f1 0 0 N)))) : jV cc own d X none pc ls (.int (nI N) :: .int (nI 0) :: .ref a1 :: .int (nI 0) :: .ref a0 :: st) h := by
  have e0 : (nI 0).toNatClampNeg = 0 := by decide
  have eN : (nI N).toNatClampNeg = N := nI_clamp hN
  refine e_copy hd hl w_acopy hc0 hc1 (by decide) (by decide) (nI_pos hN) (by rw [e0, eN]; omega) (by rw [e0, eN]; omega) hdd hsum ?_
  rw [e0, eN, n_cpy]
  exact k
end JR2
theorem va_cpy0 {f g : Nat → Nat} {N k : Nat} (h : k < N) : va_cpy f g 0 0 N k = f k := by
  unfold va_cpy
  rw [if_pos ⟨by omega, by omega⟩]
  congr 1
  omega
/-- breaths of the first i PAIRS behind a DAY, the rest before it -/
def s_mid (w : hw) (i : Nat) : hw := fun k => if 13 ≤ k ∧ k < 13 + 4 * i ∧ k % 4 = 2 then s_keep w ((k - 13) / 4) else w k
theorem s_mid_b (w : hw) (i q : Nat) : s_mid w i (13 + 4 * q + 1) = if q < i then s_keep w q else w (13 + 4 * q + 1) := by
  unfold s_mid
  by_cases c : q < i
  · rw [if_pos c, if_pos ⟨by omega, by omega, by omega⟩]
    congr 1
    omega
  · rw [if_neg c, if_neg (by omega)]
theorem s_mid_o (w : hw) (i q j : Nat) (hj : j = 0 ∨ j = 2 ∨ j = 3) : s_mid w i (13 + 4 * q + j) = w (13 + 4 * q + j) := by
  unfold s_mid
  rw [if_neg (by omega)]
theorem s_mid_lo (w : hw) (i : Nat) {k : Nat} (hk : k < 13) : s_mid w i k = w k := by
  unfold s_mid
  rw [if_neg (by omega)]
theorem s_mid_0 (w : hw) : s_mid w 0 = w := by
  funext k
  unfold s_mid
  rw [if_neg (by omega)]
theorem s_mid_warm (w : hw) (i : Nat) : s_warm (s_mid w i) = s_warm w := by
  unfold s_warm
  rw [s_mid_lo w i (by omega), s_mid_lo w i (by omega)]
theorem s_mid_blow {w : hw} {i q : Nat} (hq : i ≤ q) : s_blow (s_mid w i) q = s_blow w q := by
  unfold s_blow
  rw [s_mid_o w i q 3 (by omega), s_mid_b, if_neg (show ¬ q < i by omega)]
theorem s_mid_keep {w : hw} {i q : Nat} (hq : i ≤ q) (h2 : w 2 ≤ 8) (hp : w (13 + 4 * q + 2) < w 2) : s_keep (s_mid w i) q = s_keep w q := by
  have e0 := s_mid_o w i q 0 (Or.inl rfl)
  rw [Nat.add_zero] at e0
  unfold s_keep s_leak
  rw [s_mid_blow hq, s_mid_warm, s_mid_o w i q 3 (by omega), s_mid_b, if_neg (show ¬ q < i by omega), s_mid_o w i q 2 (by omega), s_mid_lo w i (k := 5 + w (13 + 4 * q + 2)) (by omega), e0]
theorem s_mid_ok {w : hw} (i : Nat) (ok : g_ok w) : g_ok (s_mid w i) := by
  obtain ⟨h0, h1, h2, h3, h4, h5⟩ := ok
  refine ⟨by rw [s_mid_lo w i (by omega)]; exact h0, by rw [s_mid_lo w i (by omega)]; exact h1, by rw [s_mid_lo w i (by omega)]; exact h2, by rw [s_mid_lo w i (by omega)]; exact h3, fun j hj => ?_, fun q hq => ?_⟩
  · rw [s_mid_lo w i (by omega)] at hj
    rw [s_mid_lo w i (by omega)]
    exact h4 j hj
  · rw [s_mid_lo w i (by omega)] at hq
    have e0 := s_mid_o w i q 0 (Or.inl rfl)
    rw [Nat.add_zero] at e0
    rw [e0, s_mid_o w i q 2 (by omega), s_mid_o w i q 3 (by omega), s_mid_b, s_mid_lo w i (k := 2) (by omega)]
    obtain ⟨a, b, c, d, e⟩ := h5 q hq
    refine ⟨a, b, ?_, d, e⟩
    split
    · exact s_keep_le w c
    · exact c
theorem HC.mid {h : jH} {o : Nat} {w : hw} {f k b p g z : Nat → Nat} (i : Nat) (hC : HC h o w f k b p g z) : HC h o (s_mid w i) f k b p g z := by
  unfold HC at hC ⊢
  rw [s_mid_lo w i (k := 0) (by omega), s_mid_lo w i (k := 1) (by omega), s_mid_lo w i (k := 2) (by omega), s_mid_lo w i (k := 3) (by omega), s_mid_lo w i (k := 4) (by omega)]
  exact hC
theorem HV.mid {w : hw} {f k b p g b' : Nat → Nat} (i : Nat) (h2 : w 2 ≤ 8) (hV : HV w f k b p g) (hb : ∀ q, q < w 3 → b' q = if q < i then s_keep w q else w (13 + 4 * q + 1)) : HV (s_mid w i) f k b' p g := by
  refine ⟨fun j hj => ?_, fun q hq => ?_⟩
  · rw [s_mid_lo w i (by omega)] at hj
    rw [s_mid_lo w i (by omega)]
    exact hV.1 j hj
  · rw [s_mid_lo w i (by omega)] at hq
    have e0 := s_mid_o w i q 0 (Or.inl rfl)
    rw [Nat.add_zero] at e0
    rw [e0, s_mid_o w i q 2 (by omega), s_mid_o w i q 3 (by omega), s_mid_b]
    obtain ⟨a, b, c, d⟩ := hV.2 q hq
    exact ⟨a, hb q hq, c, d⟩
theorem jhs {h h1 : jH} {i j : Nat} {c c0 : jC} (hh : h1 = h.set i c) (hc : h[j]? = some c0) (hij : i ≠ j) : h1[j]? = some c0 := by rw [hh]; exact jset_ne hc hij
theorem jhs_at {h h1 : jH} {i : Nat} {c c0 : jC} (hh : h1 = h.set i c) (hc : h[i]? = some c0) : h1[i]? = some c := by rw [hh]; exact jset_at hc
theorem HC.hs {h h1 : jH} {i o : Nat} {c : jC} {w : hw} {f k b p g z : Nat → Nat} (hh : h1 = h.set i c) (hC : HC h o w f k b p g z) (hi : i < o ∨ o + 7 ≤ i) : HC h1 o w f k b p g z := by
  rw [hh]
  exact hC.eq (jEq.set (P := fun j => j = i) rfl) (fun j a b => by unfold jIn at b; omega)
theorem HA.hs {h h1 : jH} {i o : Nat} {c : jC} {w : hw} (hh : h1 = h.set i c) (hA : HA h o w) (hi : i < o ∨ o + 7 ≤ i) : HA h1 o w := by
  rw [hh]
  exact hA.eq (jEq.set (P := fun j => j = i) rfl) (fun j a b => by unfold jIn at b; omega)
theorem jEq.hs {h0 h h1 : jH} {i : Nat} {c : jC} {P : Nat → Prop} (hh : h1 = h.set i c) (E : jEq h0 h P) (hi : P i) : jEq h0 h1 P := by rw [hh]; exact E.st hi
