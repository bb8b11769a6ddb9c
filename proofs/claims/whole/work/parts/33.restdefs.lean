/-! what rests: the waits weighed -/
theorem jb_tN {c : Prop} [Decidable c] (h : c) : jb c = nI 1 := jb_t h
theorem jb_fN {c : Prop} [Decidable c] (h : ¬ c) : jb c = nI 0 := jb_f h
theorem s_fill {f G : Nat → Nat} {m m' x : Nat} (h : ∀ c, c < m → f c = G c) (hx : x = G m) (hm : m' = m) : ∀ c, c < m + 1 → va_up f m' x c = G c := by
  intro c hc
  unfold va_up
  by_cases e : c = m'
  · rw [if_pos e, hx, e, hm]
  · rw [if_neg e]
    exact h c (by omega)
theorem s_isr_iff {G1 G2 : Nat → Nat} {i j : Nat} (hj : j < 5) : s_isr G1 G2 (5 * i + j) ↔ ∀ k, k < 5 → G1 (5 * k + j) ≤ G1 (5 * i + j) ∧ G2 (5 * i + k) ≤ G2 (5 * i + j) := by
  unfold s_isr
  rw [show (5 * i + j) % 5 = j by omega, show (5 * i + j) / 5 = i by omega]
theorem s_g1_at {w : hw} {a b n i j : Nat} (hj : j < 5) : s_g1 w a b n (5 * i + j) = s_wt a i b j n w (5 + w (13 + 4 * a + 2)) := by
  unfold s_g1
  rw [show (5 * i + j) % 5 = j by omega, show (5 * i + j) / 5 = i by omega]
theorem s_g2_at {w : hw} {a b n i j : Nat} (hj : j < 5) : s_g2 w a b n (5 * i + j) = s_wt a i b j n w (5 + w (13 + 4 * b + 2)) := by
  unfold s_g2
  rw [show (5 * i + j) % 5 = j by omega, show (5 * i + j) / 5 = i by omega]
/-- the class weighs -/
def cW (h0 h : jH) (f1 f2 : Nat → Nat) : Prop := h[206]? = some (jO 2 [.ref 207, .ref 214, .ref 215]) ∧ HX h 207 ∧ h[214]? = some (jN 25 f1) ∧ h[215]? = some (jN 25 f2) ∧ jEq h0 h (jIn 207 9)
theorem CI.cw {h0 h : jH} {S : jS} {f1 f2 : Nat → Nat} (c : CI h0 S) (t : cW h0 h f1 f2) : CI h S := by
  obtain ⟨t1, t2, t3, t4, t5⟩ := t
  exact c.scr ⟨t1, t2, ⟨f1, t3⟩, f2, t4⟩ (t5.mono (fun j q => by unfold jIn at q; omega))
theorem cW.lo {h0 h : jH} {f1 f2 : Nat → Nat} (t : cW h0 h f1 f2) : jEq h0 h jLo := t.2.2.2.2.mono (fun j q => by unfold jIn at q; unfold jLo; omega)
/-- the reference weighs -/
def rW (h0 h : jH) (s : Nat → Int32) (w : hw) (f1 f2 : Nat → Nat) : Prop := RO h s ∧ h[224]? = some (jN 41 w) ∧ (∃ u : Nat → Nat, h[226]? = some (jN 41 u)) ∧ (∃ F : Nat → Nat, h[230]? = some (jN 8 F)) ∧ (∃ Z : Nat → Nat, h[231]? = some (jN 8 Z)) ∧ h[232]? = some (jN 25 f1) ∧ h[233]? = some (jN 25 f2) ∧ jEq h0 h (fun j => j = 226 ∨ j = 230 ∨ j = 231 ∨ j = 232 ∨ j = 233)
theorem RI.rw {h0 h : jH} {S : jS} {s : Nat → Int32} {w : hw} {f1 f2 : Nat → Nat} (c : RI h0 S) (t : rW h0 h s w f1 f2) : RI h S := by
  obtain ⟨t1, t2, t3, t4, t5, t6, t7, t8⟩ := t
  obtain ⟨-, -, -, -, -, -, ⟨⟨x1, hx1⟩, -⟩, -⟩ := id c
  exact c.scr ⟨⟨x1, t8.at (by omega) hx1⟩, t3, t4, t5, ⟨_, t6⟩, _, t7⟩ t8
theorem rW.hi {h0 h : jH} {s : Nat → Int32} {w : hw} {f1 f2 : Nat → Nat} (t : rW h0 h s w f1 f2) : jEq h0 h jHi := t.2.2.2.2.2.2.2.mono (fun j q => by unfold jHi; omega)
theorem s_wdr {a i b j d x y : Nat} {u : hw} (hx : (if d < i then 1 else 0) = x) (hy : (if d < j then 1 else 0) = y) : va_up (va_up u (13 + 4 * a + 3) x) (13 + 4 * b + 3) y = s_wd a i b j d u := by rw [← hx, ← hy]; rfl
