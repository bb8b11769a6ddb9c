/-! the fewest pegs drawn -/
def s_dk (q : Nat) (w : hw) (k : Nat) : hw := fun x => if 13 ≤ x ∧ x < 13 + 4 * k ∧ x % 4 = 0 ∧ q / 2 ^ ((x - 16) / 4) % 2 = 1 then 0 else w x
theorem s_dk_0 (q : Nat) (w : hw) : s_dk q w 0 = w := by
  funext x
  unfold s_dk
  rw [if_neg (by omega)]
theorem s_dk_t {q k : Nat} {w : hw} (h : q / 2 ^ k % 2 = 1) : va_up (s_dk q w k) (13 + 4 * k + 3) 0 = s_dk q w (k + 1) := by
  funext x
  unfold s_dk va_up
  by_cases e : x = 13 + 4 * k + 3
  · rw [if_pos e, if_pos ⟨by omega, by omega, by omega, by rw [show (x - 16) / 4 = k by omega]; exact h⟩]
  · rw [if_neg e]
    dsimp only
    by_cases c : 13 ≤ x ∧ x < 13 + 4 * k ∧ x % 4 = 0 ∧ q / 2 ^ ((x - 16) / 4) % 2 = 1
    · rw [if_pos c, if_pos ⟨c.1, by omega, c.2.2.1, c.2.2.2⟩]
    · rw [if_neg c, if_neg (fun z => c ⟨z.1, by omega, z.2.2.1, z.2.2.2⟩)]
theorem s_dk_f {q k : Nat} {w : hw} (h : ¬ q / 2 ^ k % 2 = 1) : s_dk q w k = s_dk q w (k + 1) := by
  funext x
  unfold s_dk
  by_cases c : 13 ≤ x ∧ x < 13 + 4 * k ∧ x % 4 = 0 ∧ q / 2 ^ ((x - 16) / 4) % 2 = 1
  · rw [if_pos c, if_pos ⟨c.1, by omega, c.2.2.1, c.2.2.2⟩]
  · rw [if_neg c, if_neg (fun z => by
      by_cases e : x = 13 + 4 * k + 3
      · exact h (by have := z.2.2.2; rw [show (x - 16) / 4 = k by omega] at this; exact this)
      · exact c ⟨z.1, by omega, z.2.2.1, z.2.2.2⟩)]
theorem s_dk_k (q k : Nat) (w : hw) : s_dk q w k (13 + 4 * k + 3) = w (13 + 4 * k + 3) := by
  unfold s_dk
  rw [if_neg (by omega)]
theorem s_dk_ff {q k : Nat} {w : hw} (h : ¬ q / 2 ^ k % 2 = 1) : va_up (s_dk q w k) (13 + 4 * k + 3) (w (13 + 4 * k + 3)) = s_dk q w (k + 1) := by
  rw [up_self (s_dk_k q k w), s_dk_f h]
theorem s_dk_o {q k x : Nat} {w : hw} (h : x < 13 ∨ x % 4 ≠ 0) : s_dk q w k x = w x := by
  unfold s_dk
  rw [if_neg (by omega)]
theorem s_dk_ok {q k : Nat} {w : hw} (ok : g_ok w) : g_ok (s_dk q w k) := by
  obtain ⟨h0, h1, h2, h3, h4, h5⟩ := ok
  unfold g_ok
  rw [s_dk_o (by omega), s_dk_o (by omega), s_dk_o (by omega), s_dk_o (by omega)]
  refine ⟨h0, h1, h2, h3, fun j hj => ?_, fun p hp => ?_⟩
  · rw [s_dk_o (by omega)]; exact h4 j hj
  · rw [s_dk_o (by omega), s_dk_o (by omega), s_dk_o (by omega)]
    obtain ⟨a1, a2, a3, a4, a5⟩ := h5 p hp
    refine ⟨a1, a2, a3, a4, ?_⟩
    unfold s_dk
    split
    · omega
    · exact a5
/-- all that is lit behind n days when the pairs of q are drawn -/
def s_dl (w : hw) (n q : Nat) : Nat := s_lit (s_it n (s_dk q w (w 3))) (w 2)
def s_rb (F : Nat → Nat) (K : Nat) : Nat → Option Nat
  | 0 => none
  | s + 1 => match s_rb F K s with
    | none => if F s = K then some s else none
    | some b => if s_bits s 8 < s_bits b 8 then if F s = K then some s else some b else some b
def s_min (F : Nat → Nat) (K N b : Nat) : Prop := b < N ∧ F b = K ∧ ∀ s, s < N → F s = K → s_bits b 8 < s_bits s 8 ∨ (s_bits b 8 = s_bits s 8 ∧ b ≤ s)
theorem s_rb_spec (F : Nat → Nat) (K : Nat) : ∀ N, (∀ b, s_rb F K N = some b → s_min F K N b) ∧ (s_rb F K N = none → ∀ s, s < N → F s ≠ K)
  | 0 => ⟨(fun b h => nomatch h), fun _ s hs => absurd hs (by omega)⟩
  | N + 1 => by
    obtain ⟨i1, i2⟩ := s_rb_spec F K N
    cases hb : s_rb F K N with
    | none =>
      have e : s_rb F K (N + 1) = if F N = K then some N else none := by unfold s_rb; rw [hb]
      have hn := i2 hb
      rw [e]
      by_cases c : F N = K
      · rw [if_pos c]
        refine ⟨fun b h => ?_, fun h => by cases h⟩
        cases h
        refine ⟨by omega, c, fun s hs hF => ?_⟩
        by_cases q : s = N
        · rw [q]; exact Or.inr ⟨rfl, Nat.le_refl _⟩
        · exact absurd hF (hn s (by omega))
      · rw [if_neg c]
        refine ⟨(fun b h => nomatch h), fun _ s hs => ?_⟩
        by_cases q : s = N
        · rw [q]; exact c
        · exact hn s (by omega)
    | some b =>
      have e : s_rb F K (N + 1) = if s_bits N 8 < s_bits b 8 then if F N = K then some N else some b else some b := by unfold s_rb; rw [hb]
      obtain ⟨m1, m2, m3⟩ := i1 b hb
      rw [e]
      have old : ¬ (s_bits N 8 < s_bits b 8 ∧ F N = K) → s_min F K (N + 1) b := fun z => ⟨by omega, m2, fun s hs hF => by
        by_cases q : s = N
        · have : ¬ s_bits N 8 < s_bits b 8 := fun y => z ⟨y, by rw [← q]; exact hF⟩
          rw [q]; omega
        · exact m3 s (by omega) hF⟩
      by_cases c1 : s_bits N 8 < s_bits b 8
      · rw [if_pos c1]
        by_cases c2 : F N = K
        · rw [if_pos c2]
          refine ⟨fun b' h => ?_, fun h => by cases h⟩
          cases h
          refine ⟨by omega, c2, fun s hs hF => ?_⟩
          by_cases q : s = N
          · rw [q]; exact Or.inr ⟨rfl, Nat.le_refl _⟩
          · rcases m3 s (by omega) hF with z | z <;> omega
        · rw [if_neg c2]
          refine ⟨fun b' h => ?_, fun h => by cases h⟩
          cases h
          exact old (fun z => c2 z.2)
      · rw [if_neg c1]
        refine ⟨fun b' h => ?_, fun h => by cases h⟩
        cases h
        exact old (fun z => c1 z.1)
theorem s_rb_min {F : Nat → Nat} {K N b : Nat} (h : s_min F K N b) : s_rb F K N = some b := by
  cases hb : s_rb F K N with
  | none => exact absurd h.2.1 ((s_rb_spec F K N).2 hb b h.1)
  | some b' =>
    have h' := (s_rb_spec F K N).1 b' hb
    have z1 := h.2.2 b' h'.1 h'.2.1
    have z2 := h'.2.2 b h.1 h.2.1
    congr 1
    omega
theorem s_rb_none {F : Nat → Nat} {K N : Nat} (h : ∀ s, s < N → F s ≠ K) : s_rb F K N = none := by
  cases hb : s_rb F K N with
  | none => rfl
  | some b =>
    have h' := (s_rb_spec F K N).1 b hb
    exact absurd h'.2.1 (h b h'.1)
theorem s_rb_lt {F : Nat → Nat} {K N b : Nat} (h : s_rb F K N = some b) : b < N := ((s_rb_spec F K N).1 b h).1
theorem s_rb_n {F : Nat → Nat} {K N : Nat} (h : s_rb F K N = none) : s_rb F K (N + 1) = if F N = K then some N else none := by
  rw [s_rb, h]
theorem s_rb_s {F : Nat → Nat} {K N b : Nat} (h : s_rb F K N = some b) : s_rb F K (N + 1) = if s_bits N 8 < s_bits b 8 then if F N = K then some N else some b else some b := by
  rw [s_rb, h]
def ansD : Option Nat → Int32
  | none => -1000000
  | some b => nI b
theorem nI_notNone : ∀ {b : Nat}, b < 256 → ¬ nI b = -1000000 := by decide +kernel
theorem s_bits_all : ∀ {k : Nat}, k ≤ 8 → ∀ {x : Nat}, x < 2 ^ k → (s_bits x 8 = k ↔ x = 2 ^ k - 1) := by decide +kernel
theorem s_bits_lt2 : ∀ {k : Nat}, k ≤ 8 → ∀ {x : Nat}, x < 2 ^ k → s_bits x 8 ≤ k := by decide +kernel
def s_drA (w : hw) (n v : Nat) : Int32 := match s_rb (s_dl w n) (2 ^ w 2 - 1) (2 ^ w 3) with
  | none => -1000000
  | some b => if v = 1 then nI b else nI (s_bits b 8)
theorem s_drA_n {w : hw} {n v : Nat} (h : s_rb (s_dl w n) (2 ^ w 2 - 1) (2 ^ w 3) = none) : s_drA w n v = -1000000 := by rw [s_drA, h]
theorem s_drA_s {w : hw} {n v b : Nat} (h : s_rb (s_dl w n) (2 ^ w 2 - 1) (2 ^ w 3) = some b) : s_drA w n v = if v = 1 then nI b else nI (s_bits b 8) := by rw [s_drA, h]
def sp_draw (n v : Int32) (S : jS) : Int32 := if 0 < S.2.2.1 2 then if iR n 1 30 then if iR v 0 1 then s_drA S.2.2.1 n.toNatClampNeg v.toNatClampNeg else -1000001 else -1000001 else -1000002
theorem s_min_of {F : Nat → Nat} {K N q e : Nat} (hq : q < N) (hF : F q = K) (hb : s_bits q 8 = e) (h1 : ∀ x, x < N → s_bits x 8 < e → F x ≠ K) (h2 : ∀ x, x < q → s_bits x 8 = e → F x ≠ K) : s_min F K N q := ⟨hq, hF, fun x hx hx2 => by
  have n1 : ¬ s_bits x 8 < e := fun z => h1 x hx z hx2
  have n2 : ¬ (x < q ∧ s_bits x 8 = e) := fun z => h2 x z.1 z.2 hx2
  omega⟩
