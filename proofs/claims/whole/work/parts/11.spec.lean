/-! THE MATHEMATICAL STATE. A house: 41 numbers: 0 WARM, 1 TAKES, 2 how many HEARTHS, 3 how many PAIRS, 4 DAY, 5 + i FIRE of i, 13 + 4 p: KIND, BREATH, HEARTH, PEG of PAIR p -/
abbrev hw : Type := Nat → Nat
def g_ok (w : hw) : Prop := w 0 ≤ 15 ∧ w 1 ≤ 9 ∧ w 2 ≤ 8 ∧ w 3 ≤ 7 ∧ (∀ i, i < w 2 → w (5 + i) ≤ 99) ∧ (∀ p, p < w 3 → 1 ≤ w (13 + 4 * p) ∧ w (13 + 4 * p) ≤ 5 ∧ w (13 + 4 * p + 1) ≤ 40 ∧ w (13 + 4 * p + 2) < w 2 ∧ w (13 + 4 * p + 3) ≤ 1)
def s_warm (w : hw) : Nat := w 0 / 2 ^ (w 4 % 4) % 2
def s_blow (w : hw) (p : Nat) : Nat := if w (13 + 4 * p + 3) = 1 then 0 else min 4 (w (13 + 4 * p + 1))
def s_leak (w : hw) (p : Nat) : Nat :=
  if w (13 + 4 * p) = 1 then w (13 + 4 * p + 1) - s_warm w
  else if w (13 + 4 * p) = 2 then w (13 + 4 * p + 1) - (2 * s_warm w + 1)
  else if w (13 + 4 * p) = 3 then (if 0 < w (5 + w (13 + 4 * p + 2)) then w (13 + 4 * p + 1) else w (13 + 4 * p + 1) - s_warm w)
  else if w (13 + 4 * p) = 5 then min 40 (w (13 + 4 * p + 1) + s_warm w)
  else w (13 + 4 * p + 1)
def s_keep (w : hw) (p : Nat) : Nat := if w (13 + 4 * p + 3) = 0 then w (13 + 4 * p + 1) - s_blow w p else s_leak w p
def s_blown (w : hw) (i : Nat) : Nat → Nat
  | 0 => 0
  | n + 1 => s_blown w i n + (if w (13 + 4 * n + 2) = i then s_blow w n else 0)
def s_burn (w : hw) (i : Nat) : Nat := min 99 (if 0 < w (5 + i) then w (5 + i) - 1 + s_blown w i (w 3) else if w 1 ≤ s_blown w i (w 3) then s_blown w i (w 3) else if (0 < i ∧ 10 ≤ w (5 + (i - 1))) ∨ (i + 1 < w 2 ∧ 10 ≤ w (5 + (i + 1))) then 1 else 0)
def s_pass (w : hw) : hw := fun k => if k = 4 then w 4 + 1 else if 5 ≤ k ∧ k < 5 + w 2 then s_burn w (k - 5) else if 13 ≤ k ∧ k < 13 + 4 * w 3 ∧ k % 4 = 2 then s_keep w ((k - 13) / 4) else w k
def s_lit (w : hw) : Nat → Nat
  | 0 => 0
  | n + 1 => s_lit w n ||| (if 0 < w (5 + n) then 2 ^ n else 0)
def s_pegs (w : hw) : Nat → Nat
  | 0 => 0
  | n + 1 => s_pegs w n ||| (w (13 + 4 * n + 3) * 2 ^ n)
def s_at (w : hw) (i : Nat) : Nat → Nat
  | 0 => 0
  | n + 1 => s_at w i n ||| (if w (13 + 4 * n + 2) = i then 2 ^ n else 0)
def s_fires (w : hw) : Nat → Nat
  | 0 => 0
  | n + 1 => s_fires w n + w (5 + n)
def s_breaths (w : hw) : Nat → Nat
  | 0 => 0
  | n + 1 => s_breaths w n + w (13 + 4 * n + 1)
/-- what a pass leaves -/
theorem s_pass_0 (w : hw) : s_pass w 0 = w 0 := rfl
theorem s_pass_1 (w : hw) : s_pass w 1 = w 1 := rfl
theorem s_pass_2 (w : hw) : s_pass w 2 = w 2 := rfl
theorem s_pass_3 (w : hw) : s_pass w 3 = w 3 := rfl
theorem s_pass_4 (w : hw) : s_pass w 4 = w 4 + 1 := rfl
theorem s_pass_f (w : hw) {i : Nat} (h : i < w 2) : s_pass w (5 + i) = s_burn w i := by
  unfold s_pass
  rw [if_neg (by omega), if_pos ⟨by omega, by omega⟩, Nat.add_sub_cancel_left]
theorem s_pass_b (w : hw) {p : Nat} (hw2 : w 2 ≤ 8) (h : p < w 3) : s_pass w (13 + 4 * p + 1) = s_keep w p := by
  unfold s_pass
  rw [if_neg (by omega), if_neg (by omega), if_pos ⟨by omega, by omega, by omega⟩]
  congr 1
  omega
theorem s_pass_o (w : hw) {p j : Nat} (hw2 : w 2 ≤ 8) (hj : j = 0 ∨ j = 2 ∨ j = 3) : s_pass w (13 + 4 * p + j) = w (13 + 4 * p + j) := by
  unfold s_pass
  rw [if_neg (by omega), if_neg (by omega), if_neg (by omega)]
theorem s_warm_le (w : hw) : s_warm w ≤ 1 := by unfold s_warm; omega
theorem s_blow_le (w : hw) (p : Nat) : s_blow w p ≤ 4 := by
  unfold s_blow
  split <;> omega
theorem s_blow_le2 (w : hw) (p : Nat) : s_blow w p ≤ w (13 + 4 * p + 1) := by
  unfold s_blow
  split <;> omega
theorem s_blown_le (w : hw) (i : Nat) : ∀ n, s_blown w i n ≤ 4 * n
  | 0 => Nat.le_refl _
  | n + 1 => by
    have h := s_blown_le w i n
    have h2 := s_blow_le w n
    unfold s_blown
    split <;> omega
theorem s_keep_le (w : hw) {p : Nat} (h : w (13 + 4 * p + 1) ≤ 40) : s_keep w p ≤ 40 := by
  unfold s_keep s_leak
  have := s_warm_le w
  repeat' split
  all_goals omega
theorem s_burn_le (w : hw) (i : Nat) : s_burn w i ≤ 99 := Nat.min_le_left _ _
theorem s_pass_ok {w : hw} (h : g_ok w) : g_ok (s_pass w) := by
  obtain ⟨h0, h1, h2, h3, h4, h5⟩ := h
  refine ⟨h0, h1, h2, h3, fun i hi => ?_, fun p hp => ?_⟩
  · rw [s_pass_2] at hi
    rw [s_pass_f w hi]
    exact s_burn_le w i
  · rw [s_pass_3] at hp
    have e0 := s_pass_o w (p := p) (j := 0) h2 (Or.inl rfl)
    have e2 := s_pass_o w (p := p) (j := 2) h2 (Or.inr (Or.inl rfl))
    have e3 := s_pass_o w (p := p) (j := 3) h2 (Or.inr (Or.inr rfl))
    rw [Nat.add_zero] at e0
    rw [e0, e2, e3, s_pass_b w h2 hp, s_pass_2]
    obtain ⟨a, b, c, d, e⟩ := h5 p hp
    exact ⟨a, b, s_keep_le w c, d, e⟩
/-- a House of the class at o: cells o .. o + 6 -/
def HC (h : jH) (o : Nat) (w : hw) (f k b p g z : Nat → Nat) : Prop := h[o]? = some (jO 3 [.int (nI (w 4)), .int (nI (w 0)), .int (nI (w 1)), .int (nI (w 2)), .int (nI (w 3)), .ref (o + 1), .ref (o + 2), .ref (o + 3), .ref (o + 4), .ref (o + 5), .ref (o + 6)]) ∧ h[o + 1]? = some (jN 8 f) ∧ h[o + 2]? = some (jN 7 k) ∧ h[o + 3]? = some (jN 7 b) ∧ h[o + 4]? = some (jN 7 p) ∧ h[o + 5]? = some (jN 7 g) ∧ h[o + 6]? = some (jN 8 z)
def HV (w : hw) (f k b p g : Nat → Nat) : Prop := (∀ i, i < w 2 → f i = w (5 + i)) ∧ (∀ q, q < w 3 → k q = w (13 + 4 * q) ∧ b q = w (13 + 4 * q + 1) ∧ p q = w (13 + 4 * q + 2) ∧ g q = w (13 + 4 * q + 3))
def HA (h : jH) (o : Nat) (w : hw) : Prop := ∃ f k b p g z, HC h o w f k b p g z ∧ HV w f k b p g
/-- outside a stretch of cells nothing changed -/
def jEq (h h' : jH) (P : Nat → Prop) : Prop := h'.length = h.length ∧ ∀ j : Nat, ¬ P j → h'[j]? = h[j]?
def jIn (o n : Nat) : Nat → Prop := fun j => o ≤ j ∧ j < o + n
theorem jEq.rf {h : jH} {P : Nat → Prop} : jEq h h P := ⟨rfl, fun _ _ => rfl⟩
theorem jEq.tr {h h1 h2 : jH} {P Q R : Nat → Prop} (a : jEq h h1 P) (b : jEq h1 h2 Q) (hP : ∀ j, P j → R j) (hQ : ∀ j, Q j → R j) : jEq h h2 R := ⟨b.1.trans a.1, fun j hj => (b.2 j (fun q => hj (hQ j q))).trans (a.2 j (fun q => hj (hP j q)))⟩
theorem jEq.set {h : jH} {i : Nat} {c : jC} {P : Nat → Prop} (hi : P i) : jEq h (h.set i c) P := ⟨by simp, fun j hj => by
  have hij : i ≠ j := fun e => hj (by rw [← e]; exact hi)
  rw [List.getElem?_set_ne hij]⟩
theorem jEq.at {h h' : jH} {P : Nat → Prop} (a : jEq h h' P) {j : Nat} {c : jC} (hj : ¬ P j) (hc : h[j]? = some c) : h'[j]? = some c := (a.2 j hj).trans hc
theorem jset_at {h : jH} {i : Nat} {c c0 : jC} (hc : h[i]? = some c0) : (h.set i c)[i]? = some c := by rw [List.getElem?_set_self (List.getElem?_eq_some_iff.mp hc).1]
theorem jset_ne {h : jH} {i j : Nat} {c c0 : jC} (hc : h[j]? = some c0) (hij : i ≠ j) : (h.set i c)[j]? = some c0 := by rw [List.getElem?_set_ne hij]; exact hc
theorem HC.eq {h h' : jH} {o : Nat} {w : hw} {f k b p g z : Nat → Nat} {P : Nat → Prop} (hC : HC h o w f k b p g z) (a : jEq h h' P) (hP : ∀ j, P j → ¬ jIn o 7 j) : HC h' o w f k b p g z := by
  obtain ⟨h0, h1, h2, h3, h4, h5, h6⟩ := hC
  refine ⟨a.at (fun q => hP _ q ⟨by omega, by omega⟩) h0, a.at (fun q => hP _ q ⟨by omega, by omega⟩) h1, a.at (fun q => hP _ q ⟨by omega, by omega⟩) h2, a.at (fun q => hP _ q ⟨by omega, by omega⟩) h3, a.at (fun q => hP _ q ⟨by omega, by omega⟩) h4, a.at (fun q => hP _ q ⟨by omega, by omega⟩) h5, a.at (fun q => hP _ q ⟨by omega, by omega⟩) h6⟩
theorem HA.eq {h h' : jH} {o : Nat} {w : hw} {P : Nat → Prop} (hA : HA h o w) (a : jEq h h' P) (hP : ∀ j, P j → ¬ jIn o 7 j) : HA h' o w := by
  obtain ⟨f, k, b, p, g, z, hC, hV⟩ := hA
  exact ⟨f, k, b, p, g, z, hC.eq a hP, hV⟩
theorem HC.setf {h : jH} {o : Nat} {w : hw} {f k b p g z f' : Nat → Nat} (hC : HC h o w f k b p g z) : HC (h.set (o + 1) (jN 8 f')) o w f' k b p g z := by
  obtain ⟨h0, h1, h2, h3, h4, h5, h6⟩ := hC
  exact ⟨jset_ne h0 (by omega), jset_at h1, jset_ne h2 (by omega), jset_ne h3 (by omega), jset_ne h4 (by omega), jset_ne h5 (by omega), jset_ne h6 (by omega)⟩
theorem HC.setk {h : jH} {o : Nat} {w : hw} {f k b p g z k' : Nat → Nat} (hC : HC h o w f k b p g z) : HC (h.set (o + 2) (jN 7 k')) o w f k' b p g z := by
  obtain ⟨h0, h1, h2, h3, h4, h5, h6⟩ := hC
  exact ⟨jset_ne h0 (by omega), jset_ne h1 (by omega), jset_at h2, jset_ne h3 (by omega), jset_ne h4 (by omega), jset_ne h5 (by omega), jset_ne h6 (by omega)⟩
theorem HC.setb {h : jH} {o : Nat} {w : hw} {f k b p g z b' : Nat → Nat} (hC : HC h o w f k b p g z) : HC (h.set (o + 3) (jN 7 b')) o w f k b' p g z := by
  obtain ⟨h0, h1, h2, h3, h4, h5, h6⟩ := hC
  exact ⟨jset_ne h0 (by omega), jset_ne h1 (by omega), jset_ne h2 (by omega), jset_at h3, jset_ne h4 (by omega), jset_ne h5 (by omega), jset_ne h6 (by omega)⟩
theorem HC.setp {h : jH} {o : Nat} {w : hw} {f k b p g z p' : Nat → Nat} (hC : HC h o w f k b p g z) : HC (h.set (o + 4) (jN 7 p')) o w f k b p' g z := by
  obtain ⟨h0, h1, h2, h3, h4, h5, h6⟩ := hC
  exact ⟨jset_ne h0 (by omega), jset_ne h1 (by omega), jset_ne h2 (by omega), jset_ne h3 (by omega), jset_at h4, jset_ne h5 (by omega), jset_ne h6 (by omega)⟩
theorem HC.setg {h : jH} {o : Nat} {w : hw} {f k b p g z g' : Nat → Nat} (hC : HC h o w f k b p g z) : HC (h.set (o + 5) (jN 7 g')) o w f k b p g' z := by
  obtain ⟨h0, h1, h2, h3, h4, h5, h6⟩ := hC
  exact ⟨jset_ne h0 (by omega), jset_ne h1 (by omega), jset_ne h2 (by omega), jset_ne h3 (by omega), jset_ne h4 (by omega), jset_at h5, jset_ne h6 (by omega)⟩
theorem HC.setz {h : jH} {o : Nat} {w : hw} {f k b p g z z' : Nat → Nat} (hC : HC h o w f k b p g z) : HC (h.set (o + 6) (jN 8 z')) o w f k b p g z' := by
  obtain ⟨h0, h1, h2, h3, h4, h5, h6⟩ := hC
  exact ⟨jset_ne h0 (by omega), jset_ne h1 (by omega), jset_ne h2 (by omega), jset_ne h3 (by omega), jset_ne h4 (by omega), jset_ne h5 (by omega), jset_at h6⟩
/-- one of the five numbers of a House changes -/
theorem HC.set0 {h : jH} {o : Nat} {w w' : hw} {f k b p g z : Nat → Nat} (hC : HC h o w f k b p g z) : HC (h.set o (jO 3 [.int (nI (w' 4)), .int (nI (w' 0)), .int (nI (w' 1)), .int (nI (w' 2)), .int (nI (w' 3)), .ref (o + 1), .ref (o + 2), .ref (o + 3), .ref (o + 4), .ref (o + 5), .ref (o + 6)])) o w' f k b p g z := by
  obtain ⟨h0, h1, h2, h3, h4, h5, h6⟩ := hC
  exact ⟨jset_at h0, jset_ne h1 (by omega), jset_ne h2 (by omega), jset_ne h3 (by omega), jset_ne h4 (by omega), jset_ne h5 (by omega), jset_ne h6 (by omega)⟩
/-- an answer, and the heap as it was -/
def jRt (v : Value) (h : jH) : Option Value → jH → Prop := fun v' h' => v' = some v ∧ h = h'
theorem jRt_t {c : Prop} [Decidable c] {h : jH} (hc : c) : jRt (.int (jb c)) h (some (.int (nI 1))) h := ⟨by rw [jb_t hc]; rfl, rfl⟩
theorem jRt_f {c : Prop} [Decidable c] {h : jH} (hc : ¬ c) : jRt (.int (jb c)) h (some (.int (nI 0))) h := ⟨by rw [jb_f hc]; rfl, rfl⟩
theorem jRt_e {x y : Int32} {h : jH} (e : x = y) : jRt (.int y) h (some (.int x)) h := ⟨by rw [e], rfl⟩
