/-! what the class's reading leaves -/
def cL (h0 h : jH) (n : Nat) (fk : Int32) (x : sT) (Q : Nat → Prop) : Prop := jEq h0 h (fun j => 5 ≤ j ∧ j < 13) ∧ HX h 6 ∧ (∀ a, x = .inl a → cTp h n (nI a) fk ∧ Q a) ∧ (∀ q, x = .inr q → cTp h n (nI q.2) (nI q.1))
theorem cL.l {h0 h : jH} {n : Nat} {fk : Int32} {x : sT} {Q : Nat → Prop} {a : Nat} (E : jEq h0 h (fun j => 5 ≤ j ∧ j < 13)) (hx : HX h 6) (t : cTp h n (nI a) fk) (q : Q a) (e : x = .inl a) : cL h0 h n fk x Q := by
  subst e
  refine ⟨E, hx, fun a' z => ?_, fun q z => nomatch z⟩
  cases z
  exact ⟨t, q⟩
theorem cL.r {h0 h : jH} {n : Nat} {fk : Int32} {x : sT} {Q : Nat → Prop} {k a : Nat} (E : jEq h0 h (fun j => 5 ≤ j ∧ j < 13)) (hx : HX h 6) (t : cTp h n (nI a) (nI k)) (e : x = .inr (k, a)) : cL h0 h n fk x Q := by
  subst e
  refine ⟨E, hx, (fun a' z => nomatch z), fun q z => ?_⟩
  cases z
  exact t
theorem jbL {x : sT} {a : Nat} (e : x = .inl a) : jb (x.isLeft = true) = nI 1 := jb_tN (by rw [e]; rfl)
theorem jbR {x : sT} {q : Nat × Nat} (e : x = .inr q) : jb (x.isLeft = true) = nI 0 := jb_fN (by rw [e]; exact Bool.false_ne_true)
theorem sT_l {x : sT} (h : x.isLeft = true) : ∃ a, x = .inl a := by
  cases x with
  | inl a => exact ⟨a, rfl⟩
  | inr q => cases h
theorem sT_r {x : sT} (h : ¬ x.isLeft = true) : ∃ q, x = .inr q := by
  cases x with
  | inl a => exact absurd rfl h
  | inr q => exact ⟨q, rfl⟩
theorem lk_0 : ∀ {x : Nat}, x ≤ 255 → s_kd x = 0 → Op.lookupswitch.offset [(98, 59), (108, 51), (111, 53), (115, 55), (116, 57)] 61 (nI x).toInt = 61 := by decide +kernel
theorem s_kd_cs {x : Nat} : (x = 108 ∧ s_kd x = 1) ∨ (x = 111 ∧ s_kd x = 2) ∨ (x = 115 ∧ s_kd x = 3) ∨ (x = 116 ∧ s_kd x = 4) ∨ (x = 98 ∧ s_kd x = 5) ∨ s_kd x = 0 := by
  unfold s_kd
  repeat' split
  all_goals omega
theorem cL.ll {h0 h : jH} {n : Nat} {fk : Int32} {x : sT} {Q : Nat → Prop} {a : Nat} (E : jEq h0 h (fun j => 5 ≤ j ∧ j < 13)) (hx : HX h 6) (t : cTp h n (nI a) fk) (e : x = .inl a) (q : Q a) : some (Value.int (nI 1)) = some (Value.int (jb (x.isLeft = true))) ∧ cL h0 h n fk x Q := ⟨by rw [jbL e], cL.l E hx t q e⟩
theorem cL.rr {h0 h : jH} {n : Nat} {fk : Int32} {x : sT} {Q : Nat → Prop} {k a : Nat} (E : jEq h0 h (fun j => 5 ≤ j ∧ j < 13)) (hx : HX h 6) (t : cTp h n (nI a) (nI k)) (e : x = .inr (k, a)) : some (Value.int (nI 0)) = some (Value.int (jb (x.isLeft = true))) ∧ cL h0 h n fk x Q := ⟨by rw [jbR e], cL.r E hx t e⟩
theorem sI_l {a : Nat} : (Sum.inl a : sT).isLeft = true := rfl
theorem s_hl_r {n : Nat} {T : Nat → Nat} {k : Nat} {q : Nat × Nat} {u : hw} : s_hl n T k (.inr q) u = (.inr q, u) := by cases k <;> rfl
theorem s_pl_r {n : Nat} {T : Nat → Nat} {k : Nat} {q : Nat × Nat} {u : hw} : s_pl n T k (.inr q) u = (.inr q, u) := by cases k <;> rfl
theorem s_hl_f {n : Nat} {T : Nat → Nat} {k a : Nat} {u : hw} (h : ¬ b_is n T 102 a) : s_hl n T k (.inl a) u = (.inl a, u) := by
  cases k with
  | zero => exact if_neg h
  | succ k => exact if_neg h
theorem s_hl_0 {n : Nat} {T : Nat → Nat} {a : Nat} {u : hw} (h : b_is n T 102 a) : s_hl n T 0 (.inl a) u = (.inr (3, a), u) := if_pos h
theorem s_hl_s {n : Nat} {T : Nat → Nat} {k a a' : Nat} {u : hw} (h : b_is n T 102 a) (e : (s_h1 n T a).2 = .inl a') : s_hl n T (k + 1) (.inl a) u = s_hl n T k (.inl a') (va_up (va_up u (5 + u 2) (s_h1 n T a).1) 2 (u 2 + 1)) := by
  show (if b_is n T 102 a then _ else _) = _
  rw [if_pos h, e, if_pos sI_l]
theorem s_hl_x {n : Nat} {T : Nat → Nat} {k a : Nat} {q : Nat × Nat} {u : hw} (h : b_is n T 102 a) (e : (s_h1 n T a).2 = .inr q) : s_hl n T (k + 1) (.inl a) u = (.inr q, u) := by
  show (if b_is n T 102 a then _ else _) = _
  rw [if_pos h, e, s_hl_r, if_neg (by exact Bool.false_ne_true)]
theorem s_pl_f {n : Nat} {T : Nat → Nat} {k a : Nat} {u : hw} (h : ¬ (a < n ∧ 0 < s_kd (T a))) : s_pl n T k (.inl a) u = (.inl a, u) := by
  cases k with
  | zero => exact if_neg h
  | succ k => exact if_neg h
theorem s_pl_0 {n : Nat} {T : Nat → Nat} {a : Nat} {u : hw} (h : a < n ∧ 0 < s_kd (T a)) : s_pl n T 0 (.inl a) u = (.inr (3, a), u) := if_pos h
theorem s_pl_s {n : Nat} {T : Nat → Nat} {k a a' : Nat} {u : hw} (h : a < n ∧ 0 < s_kd (T a)) (e : s_p4 n T (u 2) a = .inl a') : s_pl n T (k + 1) (.inl a) u = s_pl n T k (.inl a') (s_pw u (s_kd (T a)) (s_p1 n T (u 2) a).1 (s_p2 n T (u 2) a).1 (s_p3 n T (u 2) a).1) := by
  show (if a < n ∧ 0 < s_kd (T a) then _ else _) = _
  rw [if_pos h, e, if_pos sI_l]
theorem s_pl_x {n : Nat} {T : Nat → Nat} {k a : Nat} {q : Nat × Nat} {u : hw} (h : a < n ∧ 0 < s_kd (T a)) (e : s_p4 n T (u 2) a = .inr q) : s_pl n T (k + 1) (.inl a) u = (.inr q, u) := by
  show (if a < n ∧ 0 < s_kd (T a) then _ else _) = _
  rw [if_pos h, e, s_pl_r, if_neg (by exact Bool.false_ne_true)]
