/-! the reading of a house: well at a place, or a fault (kind, place) -/
abbrev sT : Type := Nat ⊕ (Nat × Nat)
abbrev b_is (n : Nat) (T : Nat → Nat) (c a : Nat) : Prop := a < n ∧ T a = c
abbrev d_is (n : Nat) (T : Nat → Nat) (a : Nat) : Prop := a < n ∧ 48 ≤ T a ∧ T a ≤ 57
abbrev n_is (n : Nat) (T : Nat → Nat) (a : Nat) : Prop := d_is n T a ∧ ¬ (d_is n T (a + 1) ∧ d_is n T (a + 2))
def n_k (n : Nat) (T : Nat → Nat) (a : Nat) : Nat := if d_is n T (a + 1) then 2 else 1
def n_v (n : Nat) (T : Nat → Nat) (a : Nat) : Nat := if d_is n T (a + 1) then (T a - 48) * 10 + (T (a + 1) - 48) else T a - 48
abbrev n_ok (n : Nat) (T : Nat → Nat) (lo hi a : Nat) : Prop := n_is n T a ∧ lo ≤ n_v n T a ∧ n_v n T a ≤ hi
def s_B (n : Nat) (T : Nat → Nat) (c : Nat) : sT → sT
  | .inl a => if b_is n T c a then .inl (a + 1) else .inr (1, a)
  | .inr q => .inr q
def s_N (n : Nat) (T : Nat → Nat) (lo hi : Nat) : sT → Nat × sT
  | .inl a => if n_ok n T lo hi a then (n_v n T a, .inl (a + n_k n T a)) else (0, .inr (if n_is n T a then 2 else 1, a))
  | .inr q => (0, .inr q)
/-- a must: else a fault of the first kind -/
def s_M (P : Prop) [Decidable P] : sT → sT
  | .inl a => if P then .inl a else .inr (1, a)
  | .inr q => .inr q
theorem s_B_t {n : Nat} {T : Nat → Nat} {c a : Nat} (h : b_is n T c a) : s_B n T c (.inl a) = .inl (a + 1) := if_pos h
theorem s_B_f {n : Nat} {T : Nat → Nat} {c a : Nat} (h : ¬ b_is n T c a) : s_B n T c (.inl a) = .inr (1, a) := if_neg h
theorem s_N_t {n : Nat} {T : Nat → Nat} {lo hi a : Nat} (h : n_ok n T lo hi a) : s_N n T lo hi (.inl a) = (n_v n T a, .inl (a + n_k n T a)) := if_pos h
theorem s_N_f {n : Nat} {T : Nat → Nat} {lo hi a : Nat} (h : ¬ n_ok n T lo hi a) : s_N n T lo hi (.inl a) = (0, .inr (if n_is n T a then 2 else 1, a)) := if_neg h
def s_kd (c : Nat) : Nat := if c = 108 then 1 else if c = 111 then 2 else if c = 115 then 3 else if c = 116 then 4 else if c = 98 then 5 else 0
theorem s_kd_le (c : Nat) : s_kd c ≤ 5 := by
  unfold s_kd
  repeat' split
  all_goals omega
theorem n_v_le {n : Nat} {T : Nat → Nat} {a : Nat} (h : n_is n T a) : n_v n T a ≤ 99 := by
  unfold n_v
  have := h.1
  split <;> omega
theorem n_end {n : Nat} {T : Nat → Nat} {a : Nat} (h : n_is n T a) : a + n_k n T a ≤ n := by
  unfold n_k
  have := h.1
  split <;> omega
/-- one hearth, from its letter on; its fire -/
def s_h1 (n : Nat) (T : Nat → Nat) (a : Nat) : Nat × sT := ((s_N n T 0 20 (.inl (a + 1))).1, s_B n T 59 (s_N n T 0 20 (.inl (a + 1))).2)
def s_hl (n : Nat) (T : Nat → Nat) : Nat → sT → hw → sT × hw
  | _, .inr q, u => (.inr q, u)
  | 0, .inl a, u => if b_is n T 102 a then (.inr (3, a), u) else (.inl a, u)
  | k + 1, .inl a, u => if b_is n T 102 a then s_hl n T k (s_h1 n T a).2 (if (s_h1 n T a).2.isLeft then va_up (va_up u (5 + u 2) (s_h1 n T a).1) 2 (u 2 + 1) else u) else (.inl a, u)
/-- one pair, behind its letter: breath, place, peg -/
def s_p1 (n : Nat) (T : Nat → Nat) (H a : Nat) : Nat × sT := s_N n T 0 40 (.inl (a + 1))
def s_p2 (n : Nat) (T : Nat → Nat) (H a : Nat) : Nat × sT := s_N n T 0 (H - 1) (s_B n T 44 (s_p1 n T H a).2)
def s_p3 (n : Nat) (T : Nat → Nat) (H a : Nat) : Nat × sT := s_N n T 0 1 (s_B n T 44 (s_p2 n T H a).2)
def s_p4 (n : Nat) (T : Nat → Nat) (H a : Nat) : sT := s_B n T 59 (s_p3 n T H a).2
def s_pw (u : hw) (kd b p g : Nat) : hw := va_up (va_up (va_up (va_up (va_up u (13 + 4 * u 3) kd) (13 + 4 * u 3 + 1) b) (13 + 4 * u 3 + 2) p) (13 + 4 * u 3 + 3) g) 3 (u 3 + 1)
def s_pl (n : Nat) (T : Nat → Nat) : Nat → sT → hw → sT × hw
  | _, .inr q, u => (.inr q, u)
  | 0, .inl a, u => if a < n ∧ 0 < s_kd (T a) then (.inr (3, a), u) else (.inl a, u)
  | k + 1, .inl a, u => if a < n ∧ 0 < s_kd (T a) then s_pl n T k (s_p4 n T (u 2) a) (if (s_p4 n T (u 2) a).isLeft then s_pw u (s_kd (T a)) (s_p1 n T (u 2) a).1 (s_p2 n T (u 2) a).1 (s_p3 n T (u 2) a).1 else u) else (.inl a, u)
def s_l1 (n : Nat) (T : Nat → Nat) : Nat × sT := s_N n T 0 15 (s_B n T 104 (.inl 0))
def s_l2 (n : Nat) (T : Nat → Nat) : Nat × sT := s_N n T 1 9 (s_B n T 44 (s_l1 n T).2)
def s_l3 (n : Nat) (T : Nat → Nat) : sT := s_B n T 59 (s_l2 n T).2
def s_lu (n : Nat) (T : Nat → Nat) : hw := va_up (va_up (fun _ => 0) 0 (s_l1 n T).1) 1 (s_l2 n T).1
def s_hs (n : Nat) (T : Nat → Nat) : sT × hw := s_hl n T 8 (s_l3 n T) (s_lu n T)
def s_hm (n : Nat) (T : Nat → Nat) : sT := s_M (1 < (s_hs n T).2 2) (s_hs n T).1
def s_ps (n : Nat) (T : Nat → Nat) : sT × hw := s_pl n T 7 (s_hm n T) (s_hs n T).2
def s_en (n : Nat) : sT → sT
  | .inl a => if a < n then .inr (1, a) else .inl a
  | .inr q => .inr q
def s_hx (n : Nat) (T : Nat → Nat) : sT := s_en n (s_ps n T).1
def sp_house (S : jS) : Int32 × jS := match s_hx S.2.1.1 S.2.1.2.1 with
  | .inl _ => (nI ((s_ps S.2.1.1 S.2.1.2.1).2 2), (S.1, (0, S.2.1.2.1, S.2.1.2.2), (s_ps S.2.1.1 S.2.1.2.1).2, (0, S.2.2.2.1.2), S.2.2.2.2))
  | .inr q => (-1000100 - nI q.2, (S.1, (0, S.2.1.2.1, q.1), S.2.2))
theorem sp_house_l {S : jS} {a : Nat} (h : s_hx S.2.1.1 S.2.1.2.1 = .inl a) : sp_house S = (nI ((s_ps S.2.1.1 S.2.1.2.1).2 2), (S.1, (0, S.2.1.2.1, S.2.1.2.2), (s_ps S.2.1.1 S.2.1.2.1).2, (0, S.2.2.2.1.2), S.2.2.2.2)) := by rw [sp_house, h]
theorem sp_house_r {S : jS} {q : Nat × Nat} (h : s_hx S.2.1.1 S.2.1.2.1 = .inr q) : sp_house S = (-1000100 - nI q.2, (S.1, (0, S.2.1.2.1, q.1), S.2.2)) := by rw [sp_house, h]
/-- the tape of the class -/
abbrev cTp (h : jH) (n : Nat) (a fk : Int32) : Prop := h[5]? = some (jO 5 [.ref 6, .ref 13, .int (nI n), .int a, .int fk])
def s_nr (n : Nat) (T : Nat → Nat) (lo hi a : Nat) : Nat := if n_ok n T lo hi a then n_v n T a else 4294967295
theorem nr_iff {n : Nat} {T : Nat → Nat} {lo hi a : Nat} : nI (s_nr n T lo hi a) = -1 ↔ ¬ n_ok n T lo hi a := by
  unfold s_nr
  by_cases c : n_ok n T lo hi a
  · rw [if_pos c]
    have l := n_v_le c.1
    have : ∀ v, v ≤ 99 → ¬ nI v = -1 := by decide +kernel
    exact ⟨fun z => absurd z (this _ l), fun z => absurd c z⟩
  · rw [if_neg c]
    exact ⟨fun _ => c, fun _ => rfl⟩
theorem nr_t {n : Nat} {T : Nat → Nat} {lo hi a : Nat} (c : n_ok n T lo hi a) : s_nr n T lo hi a = n_v n T a := if_pos c
/-- what one to three figures say -/
def s_nm (T : Nat → Nat) (a : Nat) : Nat → Nat
  | 0 => 0
  | j + 1 => s_nm T a j * 10 + T (a + j) - 48
theorem s_nm_le {T : Nat → Nat} {a : Nat} (h : ∀ i, i < 3 → T (a + i) ≤ 255) : ∀ j, j ≤ 3 → s_nm T a j ≤ 100000
  | 0, _ => by unfold s_nm; omega
  | 1, _ => by
    have := h 0 (by omega)
    show 0 * 10 + T (a + 0) - 48 ≤ _
    omega
  | 2, _ => by
    have := h 0 (by omega)
    have := h 1 (by omega)
    show (0 * 10 + T (a + 0) - 48) * 10 + T (a + 1) - 48 ≤ _
    omega
  | 3, _ => by
    have := h 0 (by omega)
    have := h 1 (by omega)
    have := h 2 (by omega)
    show ((0 * 10 + T (a + 0) - 48) * 10 + T (a + 1) - 48) * 10 + T (a + 2) - 48 ≤ _
    omega
/-- j figures stand at a, and no more (or three at least) -/
def s_fg (n : Nat) (T : Nat → Nat) (a j : Nat) : Prop := (∀ i, i < j → d_is n T (a + i)) ∧ j ≤ 3 ∧ (j = 3 ∨ ¬ d_is n T (a + j))
theorem s_fg_is {n : Nat} {T : Nat → Nat} {a j : Nat} (h : s_fg n T a j) : n_is n T a ↔ 0 < j ∧ j < 3 := by
  obtain ⟨h1, h2, h3⟩ := h
  rcases (show j = 0 ∨ j = 1 ∨ j = 2 ∨ j = 3 by omega) with rfl | rfl | rfl | rfl
  · have : ¬ d_is n T a := by
      rcases h3 with h3 | h3
      · omega
      · exact h3
    exact ⟨fun z => absurd z.1 this, fun z => by omega⟩
  · have g0 : d_is n T a := h1 0 (by omega)
    have g1 : ¬ d_is n T (a + 1) := by
      rcases h3 with h3 | h3
      · omega
      · exact h3
    exact ⟨fun _ => by omega, fun _ => ⟨g0, fun z => g1 z.1⟩⟩
  · have g0 : d_is n T a := h1 0 (by omega)
    have g1 : ¬ d_is n T (a + 2) := by
      rcases h3 with h3 | h3
      · omega
      · exact h3
    exact ⟨fun _ => by omega, fun _ => ⟨g0, fun z => g1 z.2⟩⟩
  · have g1 : d_is n T (a + 1) := h1 1 (by omega)
    have g2 : d_is n T (a + 2) := h1 2 (by omega)
    exact ⟨fun z => absurd ⟨g1, g2⟩ z.2, fun z => by omega⟩
theorem s_fg_v {n : Nat} {T : Nat → Nat} {a j : Nat} (h : s_fg n T a j) (h0 : 0 < j) (h3 : j < 3) : n_v n T a = s_nm T a j ∧ n_k n T a = j := by
  obtain ⟨h1, h2, h4⟩ := h
  have g0 : d_is n T a := h1 0 h0
  rcases (show j = 1 ∨ j = 2 by omega) with rfl | rfl
  · have g1 : ¬ d_is n T (a + 1) := by
      rcases h4 with h4 | h4
      · omega
      · exact h4
    unfold n_v n_k
    rw [if_neg g1, if_neg g1]
    show T a - 48 = 0 * 10 + T a - 48 ∧ _
    exact ⟨by omega, rfl⟩
  · have g1 : d_is n T (a + 1) := h1 1 (by omega)
    unfold n_v n_k
    rw [if_pos g1, if_pos g1]
    show (T a - 48) * 10 + (T (a + 1) - 48) = (0 * 10 + T a - 48) * 10 + T (a + 1) - 48 ∧ _
    exact ⟨by omega, rfl⟩
