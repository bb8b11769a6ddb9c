/-! the reading of the reference: one token ahead -/
theorem upd_at {s : Nat → Int32} {k : Nat} {v : Int32} : upd s k v k = v := if_pos rfl
theorem upd_ne {s : Nat → Int32} {i k : Nat} {v : Int32} (h : i ≠ k) : upd s k v i = s i := if_neg h
def tk (n : Nat) (T : Nat → Nat) (a : Nat) : Nat := if a < n then if d_is n T a then (if n_is n T a then 2 else 5) else if 97 ≤ T a ∧ T a ≤ 122 then 1 else if T a = 44 then 3 else if T a = 59 then 4 else 5 else 0
def vl (n : Nat) (T : Nat → Nat) (a : Nat) : Int32 := if n_is n T a then nI (n_v n T a) else if a < n then nI (T a) else -1
def nx (n : Nat) (T : Nat → Nat) (a : Nat) : Nat := if n_is n T a then a + n_k n T a else if a < n then a + 1 else a
theorem tk_le (n : Nat) (T : Nat → Nat) (a : Nat) : tk n T a ≤ 5 := by
  unfold tk
  repeat' split
  all_goals omega
theorem tk_0 {n : Nat} {T : Nat → Nat} {a : Nat} : tk n T a = 0 ↔ ¬ a < n := by
  unfold tk
  by_cases c : a < n
  · rw [if_pos c]
    refine ⟨fun z => ?_, fun z => absurd c z⟩
    revert z
    repeat' split
    all_goals omega
  · rw [if_neg c]
    exact ⟨fun _ => c, fun _ => rfl⟩
theorem tk_2 {n : Nat} {T : Nat → Nat} {a : Nat} : tk n T a = 2 ↔ n_is n T a := by
  unfold tk
  by_cases c : a < n
  · rw [if_pos c]
    by_cases c1 : d_is n T a
    · rw [if_pos c1]
      by_cases c2 : n_is n T a
      · rw [if_pos c2]; exact ⟨fun _ => c2, fun _ => rfl⟩
      · rw [if_neg c2]; exact ⟨fun z => by omega, fun z => absurd z c2⟩
    · rw [if_neg c1]
      refine ⟨fun z => ?_, fun z => absurd z.1 c1⟩
      exfalso
      revert z
      repeat' split
      all_goals omega
  · rw [if_neg c]
    exact ⟨fun z => by omega, fun z => absurd z.1.1 c⟩
theorem tk_b {n : Nat} {T : Nat → Nat} {a c k : Nat} (hc : (c = 44 ∧ k = 3) ∨ (c = 59 ∧ k = 4)) : tk n T a = k ↔ b_is n T c a := by
  unfold tk
  by_cases c0 : a < n
  · rw [if_pos c0]
    by_cases c1 : d_is n T a
    · rw [if_pos c1]
      constructor
      · intro z
        exfalso
        revert z
        split <;> omega
      · intro z
        have := z.2
        have := c1.2
        omega
    · rw [if_neg c1]
      by_cases c2 : 97 ≤ T a ∧ T a ≤ 122
      · rw [if_pos c2]
        exact ⟨fun z => by omega, fun z => by have := z.2; omega⟩
      · rw [if_neg c2]
        by_cases c3 : T a = 44
        · rw [if_pos c3]
          exact ⟨fun z => ⟨c0, by omega⟩, fun z => by have := z.2; omega⟩
        · rw [if_neg c3]
          by_cases c4 : T a = 59
          · rw [if_pos c4]
            exact ⟨fun z => ⟨c0, by omega⟩, fun z => by have := z.2; omega⟩
          · rw [if_neg c4]
            exact ⟨fun z => by omega, fun z => by have := z.2; omega⟩
  · rw [if_neg c0]
    exact ⟨fun z => by omega, fun z => absurd z.1 c0⟩
theorem tk_l {n : Nat} {T : Nat → Nat} {a : Nat} : tk n T a = 1 ↔ a < n ∧ 97 ≤ T a ∧ T a ≤ 122 := by
  unfold tk
  by_cases c0 : a < n
  · rw [if_pos c0]
    by_cases c1 : d_is n T a
    · rw [if_pos c1]
      constructor
      · intro z
        exfalso
        revert z
        split <;> omega
      · intro z
        have := c1.2
        omega
    · rw [if_neg c1]
      by_cases c2 : 97 ≤ T a ∧ T a ≤ 122
      · rw [if_pos c2]
        exact ⟨fun _ => ⟨c0, c2⟩, fun _ => rfl⟩
      · rw [if_neg c2]
        refine ⟨fun z => ?_, fun z => absurd z.2 c2⟩
        exfalso
        revert z
        repeat' split
        all_goals omega
  · rw [if_neg c0]
    exact ⟨fun z => by omega, fun z => absurd z.1 c0⟩
theorem vl_n {n : Nat} {T : Nat → Nat} {a : Nat} (h : n_is n T a) : vl n T a = nI (n_v n T a) := if_pos h
theorem vl_b {n : Nat} {T : Nat → Nat} {a : Nat} (h : ¬ d_is n T a) (h2 : a < n) : vl n T a = nI (T a) := by unfold vl; rw [if_neg (fun z => h z.1), if_pos h2]
theorem nx_n {n : Nat} {T : Nat → Nat} {a : Nat} (h : n_is n T a) : nx n T a = a + n_k n T a := if_pos h
theorem nx_b {n : Nat} {T : Nat → Nat} {a : Nat} (h : ¬ d_is n T a) (h2 : a < n) : nx n T a = a + 1 := by unfold nx; rw [if_neg (fun z => h z.1), if_pos h2]
theorem nx_le {n : Nat} {T : Nat → Nat} {a : Nat} (h : a ≤ n) : nx n T a ≤ n := by
  unfold nx
  by_cases c : n_is n T a
  · rw [if_pos c]; exact n_end c
  · rw [if_neg c]; split <;> omega
/-- behind a token -/
def rL (h0 h : jH) (s : Nat → Int32) (n : Nat) (T : Nat → Nat) (a : Nat) : Prop := ∃ s' : Nat → Int32, RO h s' ∧ (s' 0 = s 0 ∧ s' 1 = s 1 ∧ s' 2 = s 2 ∧ s' 3 = s 3 ∧ s' 8 = s 8 ∧ s' 9 = s 9) ∧ (s' 5 = nI a ∧ s' 6 = nI (tk n T a) ∧ (tk n T a ≠ 5 → s' 7 = vl n T a ∧ s' 4 = nI (nx n T a))) ∧ jEq h0 h (fun j => j = 218)
/-- the reference at x, its draft u -/
def rS (h0 h : jH) (s : Nat → Int32) (n : Nat) (T : Nat → Nat) (x : sT) (u : hw) : Prop := ∃ s' : Nat → Int32, RO h s' ∧ (s' 0 = s 0 ∧ s' 1 = nI n ∧ s' 8 = s 8 ∧ s' 9 = s 9) ∧ (∀ a, x = .inl a → a ≤ n ∧ s' 2 = s 2 ∧ s' 3 = -1 ∧ s' 5 = nI a ∧ s' 6 = nI (tk n T a) ∧ (tk n T a ≠ 5 → s' 7 = vl n T a ∧ s' 4 = nI (nx n T a))) ∧ (∀ q, x = .inr q → q.2 ≤ n ∧ s' 2 = nI q.1 ∧ s' 3 = nI q.2) ∧ h[225]? = some (jN 41 u) ∧ jEq h0 h (fun j => j = 218 ∨ j = 225)
theorem rS.hs {h0 h h1 : jH} {s : Nat → Int32} {n : Nat} {T : Nat → Nat} {x : sT} {u u' : hw} (hh : h1 = h.set 225 (jN 41 u')) (t : rS h0 h s n T x u) : rS h0 h1 s n T x u' := by
  obtain ⟨s', t1, t2, t3, t4, t5, t6⟩ := t
  exact ⟨s', jhs hh t1 (by omega), t2, t3, t4, jhs_at hh t5, jEq.hs hh t6 (Or.inr rfl)⟩
theorem rS.cg {h0 h : jH} {s : Nat → Int32} {n : Nat} {T : Nat → Nat} {x x' : sT} {u u' : hw} (t : rS h0 h s n T x u) (e : x = x') (e2 : u = u') : rS h0 h s n T x' u' := by rw [← e, ← e2]; exact t
def s_K (n : Nat) (T : Nat → Nat) (P : Prop) [Decidable P] (k : Nat) : sT → sT
  | .inl a => if P then .inl (nx n T a) else .inr (k, a)
  | .inr q => .inr q
def s_KV (n : Nat) (T : Nat → Nat) (P : Prop) [Decidable P] : sT → Int32
  | .inl a => if P then vl n T a else nI 0
  | .inr _ => nI 0
theorem K_B {n : Nat} {T : Nat → Nat} {c k : Nat} {x : sT} {v : Int32} (hc : (c = 44 ∧ k = 3) ∨ (c = 59 ∧ k = 4)) (hv : ∀ a, x = .inl a → v = nI (tk n T a)) : s_K n T (v = nI k) 1 x = s_B n T c x := by
  cases x with
  | inr q => rfl
  | inl a =>
    have e : v = nI k ↔ b_is n T c a := by
      rw [hv a rfl, nI_eq (by have := tk_le n T a; omega) (by omega)]
      exact tk_b hc
    show (if v = nI k then _ else _) = (if b_is n T c a then _ else _)
    by_cases z : b_is n T c a
    · rw [if_pos z, if_pos (e.mpr z), nx_b (fun y => by have := y.2; have := z.2; omega) z.1]
    · rw [if_neg z, if_neg (fun y => z (e.mp y))]
theorem s3_well {h0 h : jH} {n : Nat} {s' : Nat → Int32} {x : sT} (hn : n ≤ 100) (hl : ∀ a, x = .inl a → s' 3 = -1) (hr : ∀ q, x = .inr q → q.2 ≤ n ∧ s' 3 = nI q.2) : s' 3 < 0 ↔ x.isLeft = true := by
  cases x with
  | inl a =>
    rw [hl a rfl]
    exact ⟨fun _ => rfl, fun _ => by decide⟩
  | inr q =>
    obtain ⟨a, b⟩ := hr q rfl
    rw [b]
    exact ⟨fun z => absurd z (nI_pos (by omega)), fun z => nomatch z⟩
theorem s_fg_big {n : Nat} {T : Nat → Nat} {a j : Nat} (h : ∀ i, i < j → d_is n T (a + i)) (hj : 3 ≤ j) : tk n T a = 5 := by
  have g0 : d_is n T a := h 0 (by omega)
  have g1 : d_is n T (a + 1) := h 1 (by omega)
  have g2 : d_is n T (a + 2) := h 2 (by omega)
  unfold tk
  rw [if_pos g0.1, if_pos g0, if_neg (fun z => z.2 ⟨g1, g2⟩)]
def s_vv (T : Nat → Nat) (a j : Nat) : Nat := s_nm T a (min j 2)
theorem s_vv_s {T : Nat → Nat} {a j : Nat} (h : j < 2) : 10 * s_vv T a j + T (a + j) - 48 = s_vv T a (j + 1) := by
  unfold s_vv
  rw [show min j 2 = j by omega, show min (j + 1) 2 = j + 1 by omega, s_nm, Nat.mul_comm]
theorem s_vv_e {T : Nat → Nat} {a j : Nat} (h : 2 ≤ j) : s_vv T a j = s_vv T a (j + 1) := by
  unfold s_vv
  rw [show min j 2 = 2 by omega, show min (j + 1) 2 = 2 by omega]
theorem in_d {n : Nat} {T : Nat → Nat} {a : Nat} (hT : ∀ i, i < n → T i ≤ 255) : iR (if a < n then nI (T a) else -1) 48 57 ↔ d_is n T a := by
  by_cases c : a < n
  · have := hT a c
    rw [if_pos c, iR_nI (by omega)]
    exact ⟨fun z => ⟨c, z⟩, fun z => z.2⟩
  · rw [if_neg c]
    exact ⟨fun z => absurd z.1 (by decide), fun z => absurd z.1 c⟩
theorem kd_l {c : Nat} (h : 0 < s_kd c) : 97 ≤ c ∧ c ≤ 122 := by
  rcases s_kd_cs (x := c) with z | z | z | z | z | z <;> omega
