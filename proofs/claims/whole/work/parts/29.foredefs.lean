/-! what is foretold: tried on a house of its own (class: cell 207; reference: array 226) -/
def s_it : Nat → hw → hw
  | 0, w => w
  | n + 1, w => s_it n (s_pass w)
theorem s_it_succ : ∀ (n : Nat) (w : hw), s_it (n + 1) w = s_pass (s_it n w)
  | 0, _ => rfl
  | n + 1, w => by
    show s_it (n + 1) (s_pass w) = _
    rw [s_it_succ n (s_pass w)]
    rfl
theorem s_it_ok : ∀ (n : Nat) {w : hw}, g_ok w → g_ok (s_it n w)
  | 0, _, h => h
  | n + 1, _, h => s_it_ok n (s_pass_ok h)
theorem s_it_4 : ∀ (n : Nat) (w : hw), s_it n w 4 = w 4 + n
  | 0, _ => rfl
  | n + 1, w => by
    show s_it n (s_pass w) 4 = _
    rw [s_it_4 n, s_pass_4]
    omega
theorem s_it_lo : ∀ (n : Nat) (w : hw) {k : Nat}, k < 4 → s_it n w k = w k
  | 0, _, _, _ => rfl
  | n + 1, w, k, hk => by
    show s_it n (s_pass w) k = _
    rw [s_it_lo n _ hk]
    rcases (show k = 0 ∨ k = 1 ∨ k = 2 ∨ k = 3 by omega) with rfl | rfl | rfl | rfl <;> rfl
/-- the class tries u -/
def cTr (h0 h : jH) (u : hw) : Prop := h[206]? = some (jO 2 [.ref 207, .ref 214, .ref 215]) ∧ HA h 207 u ∧ jEq h0 h (jIn 207 7)
/-- the reference tries u; now is w -/
def rTr (h0 h : jH) (s : Nat → Int32) (w u : hw) : Prop := RO h s ∧ h[224]? = some (jN 41 w) ∧ h[226]? = some (jN 41 u) ∧ (∃ F : Nat → Nat, h[230]? = some (jN 8 F)) ∧ (∃ Z : Nat → Nat, h[231]? = some (jN 8 Z)) ∧ jEq h0 h (fun j => j = 226 ∨ j = 230 ∨ j = 231)
theorem CI.tr {h0 h : jH} {S : jS} {u : hw} (c : CI h0 S) (t : cTr h0 h u) : CI h S := by
  obtain ⟨t1, t2, t3⟩ := t
  have E := t3.mono (Q := fun j => 206 ≤ j ∧ j < 216) (fun j q => by unfold jIn at q; omega)
  obtain ⟨f, k, b, p, g, z, hC, -⟩ := id t2
  obtain ⟨-, -, -, -, -, -, ⟨-, -, ⟨f1, c1⟩, f2, c2⟩, -⟩ := id c
  exact c.scr ⟨t1, t2.x, ⟨f1, t3.at (by unfold jIn; omega) c1⟩, f2, t3.at (by unfold jIn; omega) c2⟩ E
theorem cTr.lo {h0 h : jH} {u : hw} (t : cTr h0 h u) : jEq h0 h jLo := t.2.2.mono (fun j q => by unfold jIn at q; unfold jLo; omega)
theorem cTr.now {h0 h : jH} {u w : hw} (t : cTr h0 h u) (c : HA h0 14 w) : HA h 14 w := c.eq t.2.2 (fun j a b => by unfold jIn at a b; omega)
theorem RI.tr {h0 h : jH} {S : jS} {s : Nat → Int32} {w u : hw} (c : RI h0 S) (t : rTr h0 h s w u) : RI h S := by
  obtain ⟨t1, t2, t3, ⟨F, t4⟩, ⟨Z, t5⟩, t6⟩ := t
  obtain ⟨-, -, -, -, -, -, ⟨⟨x1, hx1⟩, -, -, -, ⟨x5, hx5⟩, x6, hx6⟩, -⟩ := id c
  exact c.scr ⟨⟨x1, t6.at (by omega) hx1⟩, ⟨u, t3⟩, ⟨F, t4⟩, ⟨Z, t5⟩, ⟨x5, t6.at (by omega) hx5⟩, x6, t6.at (by omega) hx6⟩ (t6.mono (fun j q => by omega))
theorem rTr.hi {h0 h : jH} {s : Nat → Int32} {w u : hw} (t : rTr h0 h s w u) : jEq h0 h jHi := t.2.2.2.2.2.mono (fun j q => by unfold jHi; omega)
theorem rTr.hs {h0 h h1 : jH} {s : Nat → Int32} {w u u' : hw} (hh : h1 = h.set 226 (jN 41 u')) (t : rTr h0 h s w u) : rTr h0 h1 s w u' := by
  obtain ⟨t1, t2, t3, ⟨F, t4⟩, ⟨Z, t5⟩, t6⟩ := t
  exact ⟨jhs hh t1 (by omega), jhs hh t2 (by omega), jhs_at hh t3, ⟨F, jhs hh t4 (by omega)⟩, ⟨Z, jhs hh t5 (by omega)⟩, jEq.hs hh t6 (Or.inl rfl)⟩
/-- a contract's end may name an array anew -/
theorem jM.norm {y : MethodName} {cc : ByteArray} {maxL : Nat} {ret : Option FieldType} {d : Nat} {b : jB} {av : List Value} {h : jH} {post post' : Option Value → jH → Prop} (hM : jM y cc maxL ret d b av h post) (hp : ∀ v h', post v h' → ∃ (a n : Nat) (f f' : Nat → Nat), h'[a]? = some (jN n f) ∧ (∀ k, k < n → f k = f' k) ∧ post' v (h'.set a (jN n f'))) : jM y cc maxL ret d b av h post' := by
  intro l g p e ha hc hk s m args below hf hap hP hK
  obtain ⟨k, o, h1, h2, h3, ⟨⟨v, h', q1, q2, q3, q4⟩, q5⟩, q6⟩ := hM l g p e ha hc hk s m args below hf hap hP hK
  obtain ⟨a, n, f, f', e1, e2, e3⟩ := hp v h' q2
  exact ⟨k, o, h1, h2, h3, ⟨⟨v, h'.set a (jN n f'), q1, e3, jRep_norm q3 e1 (fun k hk => by rw [e2 k hk]), fun z => by rw [q4 z]; simp⟩, q5⟩, q6⟩
theorem m_X7_copyT {h0 h : jH} {s : Nat → Int32} {w u : hw} (t : rTr h0 h s w u) : jM yX7_copies cX7_copies 5 (none : Option Jvm.ClassFile.FieldType) 0 none [.ref 224, .int (nI 0), .ref 226, .int (nI 0)] h (fun v h' => v = none ∧ rTr h0 h' s w w) := by
  refine jM.norm (m_X7_copies t.2.1 t.2.2.1 (by omega) (v1 := 0) (v2 := 0) (by omega) (by omega) (by omega) (by omega)) ?_
  rintro v h' ⟨rfl, g', hh, hg⟩
  have t1 := t.hs hh
  exact ⟨226, 41, g', w, t1.2.2.1, fun k hk => by rw [hg, if_pos (by omega)]; congr 1; omega, rfl, t1.hs rfl⟩
theorem m_X7_passT {h0 h : jH} {s : Nat → Int32} {w u : hw} (t : rTr h0 h s w u) (ok : g_ok u) (hd : u 4 < 2 ^ 30) : jM yX7_passes cX7_passes 5 (none : Option Jvm.ClassFile.FieldType) 3 none [.ref 218, .ref 226] h (fun v h' => v = none ∧ rTr h0 h' s w (s_pass u)) := by
  obtain ⟨t1, t2, t3, ⟨F, t4⟩, ⟨Z, t5⟩, t6⟩ := t
  refine (m_X7_passes (by omega) (by omega) ok hd t1 t3 t4 t5).weak ?_
  rintro v h' ⟨rfl, e1, ⟨F', Z', e2, e3⟩, E⟩
  exact ⟨rfl, E.at (by omega) t1, E.at (by omega) t2, e1, ⟨F', e2⟩, ⟨Z', e3⟩, t6.tr E (fun j q => q) (fun j q => by omega)⟩
theorem m_passT {h0 h : jH} {u : hw} (t : cTr h0 h u) (ok : g_ok u) (hd : u 4 < 2 ^ 30) : jM yX3_passDay cX3_passDay 2 (none : Option Jvm.ClassFile.FieldType) 3 none [.ref 207] h (fun v h' => v = none ∧ cTr h0 h' (s_pass u)) := by
  refine (m_X3_passDay t.2.1 ok hd).weak ?_
  rintro v h' ⟨rfl, hA, E⟩
  exact ⟨rfl, E.at (by unfold jIn; omega) t.1, hA, t.2.2.tr E (fun j q => q) (fun j q => q)⟩
theorem m_becomeT {h0 h : jH} {w : hw} (c1 : h[206]? = some (jO 2 [.ref 207, .ref 214, .ref 215])) (c2 : HX h 207) (E : jEq h0 h (jIn 207 7)) (n : HA h 14 w) (h8 : w 2 ≤ 8) (h7 : w 3 ≤ 7) : jM yX3_become cX3_become 2 (none : Option Jvm.ClassFile.FieldType) 1 none [.ref 207, .ref 14] h (fun v h' => v = none ∧ cTr h0 h' w) := by
  refine (m_become c2 n h8 h7 (by omega)).weak ?_
  rintro v h' ⟨rfl, hA, E1⟩
  exact ⟨rfl, E1.at (by unfold jIn; omega) c1, hA, E.tr E1 (fun j q => q) (fun j q => q)⟩
theorem m_becomeTT {h0 h : jH} {u w : hw} (t : cTr h0 h u) (n : HA h0 14 w) (h8 : w 2 ≤ 8) (h7 : w 3 ≤ 7) : jM yX3_become cX3_become 2 (none : Option Jvm.ClassFile.FieldType) 1 none [.ref 207, .ref 14] h (fun v h' => v = none ∧ cTr h0 h' w) := m_becomeT t.1 t.2.1.x t.2.2 (t.now n) h8 h7
/-- answers of what is foretold -/
def sp_breath (x d : Int32) (S : jS) : Int32 := if iN x (S.2.2.1 3) then if iR d 0 60 then nI (s_it d.toNatClampNeg S.2.2.1 (13 + 4 * x.toNatClampNeg + 1)) else -1000001 else -1000001
def sp_fire (x d : Int32) (S : jS) : Int32 := if iN x (S.2.2.1 2) then if iR d 0 60 then nI (s_it d.toNatClampNeg S.2.2.1 (5 + x.toNatClampNeg)) else -1000001 else -1000001
def sp_lit (d : Int32) (S : jS) : Int32 := if 0 < S.2.2.1 2 then if iR d 0 60 then nI (s_lit (s_it d.toNatClampNeg S.2.2.1) (S.2.2.1 2)) else -1000001 else -1000002
def s_emp (v : Nat) : Nat → Nat → hw → Int32
  | 0, _, _ => -1000000
  | n + 1, d, w => if s_fst w 0 (w 3) = -1000000 then s_emp v n (d + 1) (s_pass w) else if v = 0 then s_fst w 0 (w 3) else nI d
def sp_empty (v : Int32) (S : jS) : Int32 := if 0 < S.2.2.1 2 then if iR v 0 1 then s_emp v.toNatClampNeg 61 0 S.2.2.1 else -1000001 else -1000002
def s_cld (i : Nat) : Nat → Nat → hw → Int32
  | 0, _, _ => -1000000
  | n + 1, d, w => if 0 < w (5 + i) then s_cld i n (d + 1) (s_pass w) else nI d
def sp_cold (x : Int32) (S : jS) : Int32 := if iN x (S.2.2.1 2) then s_cld x.toNatClampNeg 61 0 S.2.2.1 else -1000001
theorem s_fst_none {w : hw} : ∀ (n p : Nat), p + n ≤ 7 → (s_fst w p n = -1000000 ↔ ∀ q, p ≤ q → q < p + n → w (13 + 4 * q + 1) ≠ 0)
  | 0, p, _ => ⟨fun _ q h1 h2 => by omega, fun _ => rfl⟩
  | n + 1, p, h => by
    unfold s_fst
    by_cases c : w (13 + 4 * p + 1) = 0
    · rw [if_pos c]
      have : ∀ p, p < 7 → nI p ≠ -1000000 := by decide +kernel
      exact ⟨fun e => absurd e (this p (by omega)), fun e => absurd c (e p (by omega) (by omega))⟩
    · rw [if_neg c, s_fst_none n (p + 1) (by omega)]
      refine ⟨fun e q h1 h2 => ?_, fun e q h1 h2 => e q (by omega) (by omega)⟩
      by_cases z : q = p
      · rw [z]; exact c
      · exact e q (by omega) (by omega)
theorem s_fst_some {w : hw} : ∀ (n p q : Nat), p ≤ q → q < p + n → w (13 + 4 * q + 1) = 0 → (∀ r, p ≤ r → r < q → w (13 + 4 * r + 1) ≠ 0) → s_fst w p n = nI q
  | 0, p, q, h1, h2, _, _ => by omega
  | n + 1, p, q, h1, h2, h3, h4 => by
    unfold s_fst
    by_cases c : w (13 + 4 * p + 1) = 0
    · rw [if_pos c]
      congr 1
      exact Classical.byContradiction (fun z => h4 p (by omega) (by omega) c)
    · rw [if_neg c]
      have : p ≠ q := fun z => c (by rw [z]; exact h3)
      exact s_fst_some n (p + 1) q (by omega) (by omega) h3 (fun r a b => h4 r (by omega) b)
