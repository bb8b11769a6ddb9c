/-! plans: two who wait -/
theorem up_self {w : hw} {x v : Nat} (e : w x = v) : va_up w x v = w := by
  funext k
  unfold va_up
  by_cases c : k = x
  · rw [if_pos c, c, e]
  · rw [if_neg c]
theorem up_at {w : hw} {x v : Nat} : va_up w x v x = v := by unfold va_up; rw [if_pos rfl]
theorem up_ne {w : hw} {x y v : Nat} (h : y ≠ x) : va_up w x v y = w y := by unfold va_up; rw [if_neg h]
def s_wd (a i b j d : Nat) (u : hw) : hw := va_up (va_up u (13 + 4 * a + 3) (if d < i then 1 else 0)) (13 + 4 * b + 3) (if d < j then 1 else 0)
def s_wl (a i b j : Nat) : Nat → Nat → hw → hw
  | 0, _, u => u
  | m + 1, d, u => s_wl a i b j m (d + 1) (s_pass (s_wd a i b j d u))
def s_w1 (a b : Nat) (w : hw) : hw := va_up (va_up w (13 + 4 * a + 3) 1) (13 + 4 * b + 3) 1
def s_wt (a i b j n : Nat) (w : hw) : hw := s_wl a i b j n 0 (s_w1 a b w)
/-- law, hearths, pairs and places are the same -/
def s_sm (u w : hw) : Prop := (∀ k, k < 4 → u k = w k) ∧ ∀ p, u (13 + 4 * p + 2) = w (13 + 4 * p + 2)
theorem s_sm.rf {w : hw} : s_sm w w := ⟨fun _ _ => rfl, fun _ => rfl⟩
theorem s_sm.peg {u w : hw} {a v : Nat} (h : s_sm u w) : s_sm (va_up u (13 + 4 * a + 3) v) w := ⟨fun k hk => by rw [up_ne (by omega)]; exact h.1 k hk, fun p => by rw [up_ne (by omega)]; exact h.2 p⟩
theorem s_sm.pass {u w : hw} (h : s_sm u w) (h2 : u 2 ≤ 8) : s_sm (s_pass u) w := ⟨fun k hk => by
  rw [← h.1 k hk]
  rcases (show k = 0 ∨ k = 1 ∨ k = 2 ∨ k = 3 by omega) with rfl | rfl | rfl | rfl <;> rfl, fun p => by rw [s_pass_o u h2 (by omega)]; exact h.2 p⟩
theorem s_sm.it {w : hw} : ∀ (n : Nat) {u : hw}, s_sm u w → u 2 ≤ 8 → s_sm (s_it n u) w
  | 0, _, h, _ => h
  | n + 1, u, h, h2 => s_sm.it n (h.pass h2) (by rw [s_pass_2]; exact h2)
theorem s_it_o : ∀ (n : Nat) {u : hw} {p j : Nat}, u 2 ≤ 8 → j = 0 ∨ j = 2 ∨ j = 3 → s_it n u (13 + 4 * p + j) = u (13 + 4 * p + j)
  | 0, _, _, _, _, _ => rfl
  | n + 1, u, p, j, h2, hj => by
    show s_it n (s_pass u) _ = _
    rw [s_it_o n (by rw [s_pass_2]; exact h2) hj, s_pass_o u h2 hj]
theorem p01 {P : Prop} [Decidable P] : (if P then 1 else 0) ≤ 1 := by split <;> omega
theorem s_wd_ok {a i b j d : Nat} {u : hw} (ok : g_ok u) : g_ok (s_wd a i b j d u) := (ok.peg p01).peg p01
theorem s_wd_sm {a i b j d : Nat} {u w : hw} (h : s_sm u w) : s_sm (s_wd a i b j d u) w := h.peg.peg
theorem s_wd_4 {a i b j d : Nat} {u : hw} : s_wd a i b j d u 4 = u 4 := by unfold s_wd; rw [up_ne (by omega), up_ne (by omega)]
theorem s_wl_ok {a i b j : Nat} : ∀ (m d : Nat) {u : hw}, g_ok u → g_ok (s_wl a i b j m d u)
  | 0, _, _, h => h
  | m + 1, d, _, h => s_wl_ok m (d + 1) (s_pass_ok (s_wd_ok h))
theorem s_wl_sm {a i b j : Nat} {w : hw} : ∀ (m d : Nat) {u : hw}, g_ok u → s_sm u w → s_sm (s_wl a i b j m d u) w
  | 0, _, _, _, h => h
  | m + 1, d, _, ok, h => s_wl_sm m (d + 1) (s_pass_ok (s_wd_ok ok)) ((s_wd_sm h).pass (s_wd_ok ok).2.2.1)
theorem s_w1_ok {a b : Nat} {w : hw} (ok : g_ok w) : g_ok (s_w1 a b w) := (ok.peg (by omega)).peg (by omega)
theorem s_w1_sm {a b : Nat} {w : hw} : s_sm (s_w1 a b w) w := s_sm.rf.peg.peg
theorem s_w1_4 {a b : Nat} {w : hw} : s_w1 a b w 4 = w 4 := by unfold s_w1; rw [up_ne (by omega), up_ne (by omega)]
theorem s_wt_ok {a i b j n : Nat} {w : hw} (ok : g_ok w) : g_ok (s_wt a i b j n w) := s_wl_ok _ _ (s_w1_ok ok)
theorem s_wt_sm {a i b j n : Nat} {w : hw} (ok : g_ok w) : s_sm (s_wt a i b j n w) w := s_wl_sm _ _ (s_w1_ok ok) s_w1_sm
/-- pegs as they stand when day d begins -/
def s_wi (a i b j d : Nat) (u : hw) : Prop := u (13 + 4 * a + 3) = (if d ≤ i then 1 else 0) ∧ u (13 + 4 * b + 3) = (if d ≤ j then 1 else 0) ∧ (a = b → i = j)
theorem s_wi_0 {a i b j : Nat} {w : hw} (h : a = b → i = j) : s_wi a i b j 0 (s_w1 a b w) := by
  refine ⟨?_, ?_, h⟩
  · unfold s_w1 va_up
    rw [if_pos (Nat.zero_le _)]
    split
    · rfl
    · rw [if_pos rfl]
  · unfold s_w1
    rw [if_pos (Nat.zero_le _), up_at]
theorem s_wi_s {a i b j d : Nat} {u : hw} (I : s_wi a i b j d u) (h2 : u 2 ≤ 8) : s_wi a i b j (d + 1) (s_pass (s_wd a i b j d u)) := by
  have h2' : s_wd a i b j d u 2 ≤ 8 := by unfold s_wd; rw [up_ne (by omega), up_ne (by omega)]; exact h2
  refine ⟨?_, ?_, I.2.2⟩
  · rw [s_pass_o _ h2' (by omega)]
    unfold s_wd
    by_cases e : a = b
    · subst e
      rw [up_at, I.2.2 rfl]
      rfl
    · rw [up_ne (by omega), up_at]
      rfl
  · rw [s_pass_o _ h2' (by omega)]
    unfold s_wd
    rw [up_at]
    rfl
theorem if_le_lt {d i : Nat} (h : d ≠ i) : (if d ≤ i then 1 else 0) = (if d < i then 1 else 0) := by
  by_cases c : d < i
  · rw [if_pos c, if_pos (by omega)]
  · rw [if_neg c, if_neg (by omega)]
theorem s_wd_n {a i b j d : Nat} {u : hw} (I : s_wi a i b j d u) (h1 : d ≠ i) (h2 : d ≠ j) : u = s_wd a i b j d u := by
  have e := I.1
  have e2 := I.2.1
  rw [if_le_lt h1] at e
  rw [if_le_lt h2] at e2
  unfold s_wd
  rw [up_self e, up_self e2]
theorem s_wd_i {a i b j d : Nat} {u : hw} (I : s_wi a i b j d u) (h1 : d = i) (h2 : d ≠ j) : va_up u (13 + 4 * a + 3) 0 = s_wd a i b j d u := by
  have e2 := I.2.1
  have hab : a ≠ b := fun q => h2 (h1.trans (I.2.2 q))
  rw [if_le_lt h2] at e2
  unfold s_wd
  rw [if_neg (show ¬ d < i by omega), up_self (w := va_up u (13 + 4 * a + 3) 0) (by rw [up_ne (by omega)]; exact e2)]
theorem s_wd_j {a i b j d : Nat} {u : hw} (I : s_wi a i b j d u) (h1 : d ≠ i) (h2 : d = j) : va_up u (13 + 4 * b + 3) 0 = s_wd a i b j d u := by
  have e := I.1
  rw [if_le_lt h1] at e
  unfold s_wd
  rw [if_neg (show ¬ d < j by omega), up_self e]
theorem s_wd_ij {a i b j d : Nat} {u : hw} (_I : s_wi a i b j d u) (h1 : d = i) (h2 : d = j) : va_up (va_up u (13 + 4 * a + 3) 0) (13 + 4 * b + 3) 0 = s_wd a i b j d u := by
  unfold s_wd
  rw [if_neg (show ¬ d < i by omega), if_neg (show ¬ d < j by omega)]
/-- one who waits -/
theorem s_wl_a {p i : Nat} : ∀ (m r d : Nat) {u : hw}, d + m ≤ i → u (13 + 4 * p + 3) = 1 → u 2 ≤ 8 → s_wl p i p i (m + r) d u = s_wl p i p i r (d + m) (s_it m u)
  | 0, r, d, u, _, _, _ => by rw [Nat.zero_add]; rfl
  | m + 1, r, d, u, h, h1, h2 => by
    rw [show m + 1 + r = (m + r) + 1 by omega]
    show s_wl p i p i (m + r) (d + 1) (s_pass (s_wd p i p i d u)) = s_wl p i p i r (d + (m + 1)) (s_it m (s_pass u))
    have e : s_wd p i p i d u = u := by
      unfold s_wd
      rw [if_pos (show d < i by omega), up_self h1, up_self h1]
    rw [e, s_wl_a m r (d + 1) (by omega) (by rw [s_pass_o u h2 (by omega)]; exact h1) (by rw [s_pass_2]; exact h2), show d + 1 + m = d + (m + 1) by omega]
theorem s_wl_b {p i : Nat} : ∀ (r d : Nat) {u : hw}, i ≤ d → u (13 + 4 * p + 3) = 0 → u 2 ≤ 8 → s_wl p i p i r d u = s_it r u
  | 0, d, u, _, _, _ => rfl
  | r + 1, d, u, h, h1, h2 => by
    show s_wl p i p i r (d + 1) (s_pass (s_wd p i p i d u)) = s_it r (s_pass u)
    have e : s_wd p i p i d u = u := by
      unfold s_wd
      rw [if_neg (show ¬ d < i by omega), up_self h1, up_self h1]
    rw [e, s_wl_b r (d + 1) (by omega) (by rw [s_pass_o u h2 (by omega)]; exact h1) (by rw [s_pass_2]; exact h2)]
theorem s_wt_one {p i n : Nat} {w : hw} (hi : i < n) (h2 : w 2 ≤ 8) : s_wt p i p i n w = s_it (n - i) (va_up (s_it i (va_up w (13 + 4 * p + 3) 1)) (13 + 4 * p + 3) 0) := by
  have e1 : s_w1 p p w = va_up w (13 + 4 * p + 3) 1 := by unfold s_w1; rw [up_self up_at]
  have e2 : va_up w (13 + 4 * p + 3) 1 2 ≤ 8 := by rw [up_ne (by omega)]; exact h2
  unfold s_wt
  rw [e1, show n = i + ((n - i - 1) + 1) by omega, s_wl_a i _ 0 (by omega) up_at e2]
  show s_wl p i p i (n - i - 1) (0 + i + 1) (s_pass (s_wd p i p i (0 + i) (s_it i (va_up w (13 + 4 * p + 3) 1)))) = _
  have e3 : s_wd p i p i (0 + i) (s_it i (va_up w (13 + 4 * p + 3) 1)) = va_up (s_it i (va_up w (13 + 4 * p + 3) 1)) (13 + 4 * p + 3) 0 := by
    unfold s_wd
    rw [if_neg (show ¬ 0 + i < i by omega), up_self up_at]
  have e4 : va_up (s_it i (va_up w (13 + 4 * p + 3) 1)) (13 + 4 * p + 3) 0 2 ≤ 8 := by rw [up_ne (by omega), s_it_lo i _ (by omega)]; exact e2
  rw [e3, s_wl_b _ _ (by omega) (by rw [s_pass_o _ e4 (by omega)]; exact up_at) (by rw [s_pass_2]; exact e4), show i + (n - i - 1 + 1) - i = (n - i - 1) + 1 by omega]
  rfl
/-- the best day to draw: the first of the greatest -/
def s_best (F : Nat → Nat) : Nat → Nat × Int32
  | 0 => (0, -1)
  | k + 1 => if nI (F k) ≤ (s_best F k).2 then s_best F k else (k, nI (F k))
theorem s_best_le {F : Nat → Nat} {k : Nat} (h : nI (F k) ≤ (s_best F k).2) : s_best F (k + 1) = s_best F k := if_pos h
theorem s_best_gt {F : Nat → Nat} {k : Nat} (h : ¬ nI (F k) ≤ (s_best F k).2) : s_best F (k + 1) = (k, nI (F k)) := if_neg h
theorem s_best_lt {F : Nat → Nat} : ∀ k, (s_best F k).1 ≤ k
  | 0 => Nat.le_refl _
  | k + 1 => by
    have := s_best_lt (F := F) k
    unfold s_best
    split
    · omega
    · exact Nat.le_succ k
def s_bf (w : hw) (p n k : Nat) : Nat := s_wt p k p k n w (5 + w (13 + 4 * p + 2))
def s_bestA (w : hw) (p n v : Nat) : Int32 := if v = 0 then nI (s_best (s_bf w p n) n).1 else (s_best (s_bf w p n) n).2
def sp_best (x n v : Int32) (S : jS) : Int32 := if iN x (S.2.2.1 3) then if iR n 1 30 then if iR v 0 1 then s_bestA S.2.2.1 x.toNatClampNeg n.toNatClampNeg v.toNatClampNeg else -1000001 else -1000001 else -1000001
/-- the trial of the class, whatever it holds -/
def cT0 (h0 h : jH) : Prop := h[206]? = some (jO 2 [.ref 207, .ref 214, .ref 215]) ∧ HX h 207 ∧ jEq h0 h (jIn 207 7)
theorem cTr.t0 {h0 h : jH} {u : hw} (t : cTr h0 h u) : cT0 h0 h := ⟨t.1, t.2.1.x, t.2.2⟩
theorem cTr.cg {h0 h : jH} {u u' : hw} (t : cTr h0 h u) (e : u = u') : cTr h0 h u' := by rw [← e]; exact t
theorem rTr.cg {h0 h : jH} {s : Nat → Int32} {w u u' : hw} (t : rTr h0 h s w u) (e : u = u') : rTr h0 h s w u' := by rw [← e]; exact t
theorem CI.t0 {h0 h : jH} {S : jS} (c : CI h0 S) (t : cT0 h0 h) : CI h S := by
  obtain ⟨t1, t2, t3⟩ := t
  have E := t3.mono (Q := fun j => 206 ≤ j ∧ j < 216) (fun j q => by unfold jIn at q; omega)
  obtain ⟨-, -, -, -, -, -, ⟨-, -, ⟨f1, c1⟩, f2, c2⟩, -⟩ := id c
  exact c.scr ⟨t1, t2, ⟨f1, t3.at (by unfold jIn; omega) c1⟩, f2, t3.at (by unfold jIn; omega) c2⟩ E
theorem cT0.lo {h0 h : jH} (t : cT0 h0 h) : jEq h0 h jLo := t.2.2.mono (fun j q => by unfold jIn at q; unfold jLo; omega)
theorem m_becomeT0 {h0 h : jH} {w : hw} (t : cT0 h0 h) (n : HA h0 14 w) (h8 : w 2 ≤ 8) (h7 : w 3 ≤ 7) : jM yX3_become cX3_become 2 (none : Option Jvm.ClassFile.FieldType) 1 none [.ref 207, .ref 14] h (fun v h' => v = none ∧ cTr h0 h' w) := m_becomeT t.1 t.2.1 t.2.2 (n.eq t.2.2 (fun j a b => by unfold jIn at a b; omega)) h8 h7
theorem cTr.pg {h0 h h1 : jH} {u : hw} {f k b p g z : Nat → Nat} {i v : Nat} (t : cTr h0 h u) (hC : HC h 207 u f k b p g z) (hV : HV u f k b p g) (h2 : u 2 ≤ 8) (hh : h1 = h.set (207 + 5) (jN 7 (va_up g i v))) : cTr h0 h1 (va_up u (13 + 4 * i + 3) v) :=
  ⟨jhs hh t.1 (by omega), ⟨_, _, _, _, _, _, (HC.hsetg hh hC).w (va_up_ge (by omega)), hV.setg h2⟩, jEq.hs hh t.2.2 (by unfold jIn; omega)⟩
/-- what each gets, by the code of the waits -/
def s_g1 (w : hw) (a b n c : Nat) : Nat := s_wt a (c / 5) b (c % 5) n w (5 + w (13 + 4 * a + 2))
def s_g2 (w : hw) (a b n c : Nat) : Nat := s_wt a (c / 5) b (c % 5) n w (5 + w (13 + 4 * b + 2))
theorem s_wt_f {w : hw} {a i b j n q : Nat} (ok : g_ok w) (hq : q < w 2) : s_wt a i b j n w (5 + q) ≤ 99 := (s_wt_ok ok).2.2.2.2.1 q (by rw [(s_wt_sm ok).1 2 (by omega)]; exact hq)
abbrev s_isr (G1 G2 : Nat → Nat) (c : Nat) : Prop := ∀ k, k < 5 → G1 (5 * k + c % 5) ≤ G1 c ∧ G2 (5 * (c / 5) + k) ≤ G2 c
def s_rs (G1 G2 : Nat → Nat) (K : Int32) : Nat → Nat → Nat → Int32
  | 0, _, s => if K = -1 then nI s else -1000000
  | m + 1, c, s => if s_isr G1 G2 c then if nI s = K then nI (10 * (c / 5) + c % 5) else s_rs G1 G2 K m (c + 1) (s + 1) else s_rs G1 G2 K m (c + 1) s
def sp_rests (x y n k : Int32) (S : jS) : Int32 := if iN x (S.2.2.1 3) then if iN y (S.2.2.1 3) then if x = y then -1000001 else if iR n 5 20 then if -1 ≤ k then s_rs (s_g1 S.2.2.1 x.toNatClampNeg y.toNatClampNeg n.toNatClampNeg) (s_g2 S.2.2.1 x.toNatClampNeg y.toNatClampNeg n.toNatClampNeg) k 25 0 0 else -1000001 else -1000001 else -1000001 else -1000001
