/-! asked -/
def cA (h0 h : jH) (L : List Nat) : Prop := h[216]? = some (jO 1 [.ref 217, .int (nI L.length)]) ∧ (∃ f : Nat → Nat, h[217]? = some (jN 16 f) ∧ ∀ i, i < L.length → f i = L.getD i 0) ∧ jEq h0 h (fun j => j = 216 ∨ j = 217)
def rA (h0 h : jH) (s : Nat → Int32) (L : List Nat) : Prop := RO h (upd s 9 (nI L.length)) ∧ (∃ f : Nat → Nat, h[234]? = some (jN 16 f) ∧ ∀ i, i < L.length → f i = L.getD i 0) ∧ jEq h0 h (fun j => j = 218 ∨ j = 234)
theorem cA.cg {h0 h : jH} {L L' : List Nat} (t : cA h0 h L) (e : L = L') : cA h0 h L' := by rw [← e]; exact t
theorem rA.cg {h0 h : jH} {s : Nat → Int32} {L L' : List Nat} (t : rA h0 h s L) (e : L = L') : rA h0 h s L' := by rw [← e]; exact t
theorem L_push {f : Nat → Nat} {L : List Nat} {b : Nat} (hf : ∀ i, i < L.length → f i = L.getD i 0) : ∀ i, i < (L ++ [b]).length → va_up f L.length b i = (L ++ [b]).getD i 0 := by
  intro i hi
  rw [List.length_append, List.length_singleton] at hi
  unfold va_up
  by_cases c : i = L.length
  · rw [if_pos c, c]
    simp
  · rw [if_neg c, hf i (by omega), List.getD_eq_getElem?_getD, List.getD_eq_getElem?_getD, List.getElem?_append_left (by omega)]
theorem cA.hc {h0 h : jH} {L : List Nat} {w : hw} {f k b p g z : Nat → Nat} (t : cA h0 h L) (hC : HC h0 14 w f k b p g z) : HC h 14 w f k b p g z := hC.eq t.2.2 (fun j a b => by unfold jIn at b; omega)
def s_mk (w : hw) (q : Nat) : Int32 := if w (13 + 4 * q) = 2 then nI (2 * (q + w (13 + 4 * q + 2))) else if w (13 + 4 * q) = 3 then nI (q + w (13 + 4 * q + 2)) - nI 1000 else nI (q + w (13 + 4 * q + 2))
def s_lz (w : hw) (q : Nat) : Int32 := if w (13 + 4 * q) = 2 then -(nI (w (13 + 4 * q + 1)) + s_mk w q) else nI (w (13 + 4 * q + 1)) + s_mk w q
def s_ts (w : hw) (q : Nat) : Int32 := if w (13 + 4 * q) = 5 then nI 2 * (nI (w (13 + 4 * q + 1)) - nI 100) else nI (w (13 + 4 * q + 1)) - nI 100
def s_askV (w : hw) (q v : Nat) : Int32 := if v = 0 then if 4 ≤ w (13 + 4 * q) then s_ts w q else s_lz w q else if 4 ≤ w (13 + 4 * q) then nI q - s_ts w q else s_mk w q
def l_mk (K : Nat) : List Nat := if K = 1 then [21, 20] else if K = 2 then [24, 21, 20] else [22, 21, 20]
def l_lz (K : Nat) : List Nat := if K = 2 then 12 :: 11 :: 10 :: l_mk K else 11 :: 10 :: l_mk K
def l_ts (K : Nat) : List Nat := if K = 5 then [14, 13, 10] else [13, 10]
def s_askL (w : hw) (q v : Nat) : List Nat := if v = 0 then if 4 ≤ w (13 + 4 * q) then l_ts (w (13 + 4 * q)) else l_lz (w (13 + 4 * q)) else if 4 ≤ w (13 + 4 * q) then 23 :: 20 :: l_ts (w (13 + 4 * q)) else l_mk (w (13 + 4 * q))
def z_tr (S : jS) (L : List Nat) : jS := (S.1, S.2.1, S.2.2.1, S.2.2.2.1, S.2.2.2.2.1, (L.length, fun i => L.getD i 0))
def sp_ask (x v : Int32) (S : jS) : Int32 × jS := if iN x (S.2.2.1 3) then if iR v 0 1 then (s_askV S.2.2.1 x.toNatClampNeg v.toNatClampNeg, z_tr S (s_askL S.2.2.1 x.toNatClampNeg v.toNatClampNeg)) else (-1000001, S) else (-1000001, S)
def sp_as (x v : Int32) (S : jS) : Int32 × jS := if iN x (S.2.2.1 3) then if iR v 0 5 then if s_isa (S.2.2.1 (13 + 4 * x.toNatClampNeg)) v.toNatClampNeg then (x, z_st S 0) else (-1000010 - nI 3, z_st S 3) else (-1000001, S) else (-1000001, S)
theorem CI.ca {h0 h : jH} {S : jS} {L : List Nat} (c : CI h0 S) (t : cA h0 h L) : CI h (z_tr S L) := by
  obtain ⟨c1, c2, c3, c4, c5, c6, c7, c8⟩ := c
  obtain ⟨t1, ⟨f, t2, t3⟩, E⟩ := t
  exact ⟨cTop.eq E c1 (by omega), cRows.eq E c2 (fun j _ _ q => by omega), cTape.eq E c3 (fun j _ _ q => by omega), cNow.eq E c4 (fun j _ _ q => by omega), cActs.eq E c5 (fun j _ _ q => by omega), cImg.eq E c6 (fun j _ _ q => by omega), cFor.eq E c7 (fun j _ _ q => by omega), t1, f, t2, t3⟩
theorem cA.lo {h0 h : jH} {L : List Nat} (t : cA h0 h L) : jEq h0 h jLo := t.2.2.mono (fun j q => by unfold jLo; omega)
theorem rA.hi {h0 h : jH} {s : Nat → Int32} {L : List Nat} (t : rA h0 h s L) : jEq h0 h jHi := t.2.2.mono (fun j q => by unfold jHi; omega)
theorem RI.ra {h0 h : jH} {S : jS} {s : Nat → Int32} {L : List Nat} (c : RI h0 S) (hs : s 0 = nI S.1.1 ∧ s 1 = nI S.2.1.1 ∧ s 2 = nI S.2.1.2.2 ∧ s 8 = nI S.2.2.2.1.1) (t : rA h0 h s L) : RI h (z_tr S L) := by
  obtain ⟨c1, c2, c3, c4, c5, c6, c7, c8⟩ := c
  obtain ⟨t1, ⟨f, t2, t3⟩, E⟩ := t
  exact ⟨⟨_, t1, hs.1, hs.2.1, hs.2.2.1, hs.2.2.2, rfl⟩, rRows.eq E c2 (fun j _ _ q => by omega), rTape.eq E c3 (by omega), E.at (by omega) c4, rActs.eq E c5 (by omega), rImg.eq E c6 (by omega) (by omega), rScr.eq E c7 (by omega) (by omega) (by omega) (by omega) (by omega) (by omega), f, t2, t3⟩
theorem s_isa_iff {k a : Nat} (h1 : 1 ≤ k) (h5 : k ≤ 5) : s_isa k a ↔ (a = 0 ∨ a = k ∨ (a = 1 ∧ k < 4) ∨ (a = 4 ∧ k = 5)) := by
  unfold s_isa
  omega
theorem s_mk1 {w : hw} {q : Nat} (h : w (13 + 4 * q) = 1) : s_mk w q = nI (q + w (13 + 4 * q + 2)) := by rw [s_mk, if_neg (by omega), if_neg (by omega)]
theorem s_mk2 {w : hw} {q : Nat} (h : w (13 + 4 * q) = 2) : s_mk w q = nI (2 * (q + w (13 + 4 * q + 2))) := by rw [s_mk, if_pos h]
theorem s_mk3 {w : hw} {q : Nat} (h : w (13 + 4 * q) = 3) : s_mk w q = nI (q + w (13 + 4 * q + 2)) - nI 1000 := by rw [s_mk, if_neg (by omega), if_pos h]
theorem s_ts4 {w : hw} {q : Nat} (h : w (13 + 4 * q) = 4) : s_ts w q = nI (w (13 + 4 * q + 1)) - nI 100 := by rw [s_ts, if_neg (by omega)]
theorem s_ts5 {w : hw} {q : Nat} (h : w (13 + 4 * q) = 5) : s_ts w q = nI 2 * (nI (w (13 + 4 * q + 1)) - nI 100) := by rw [s_ts, if_pos h]
