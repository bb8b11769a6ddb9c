/-! what the calls answer, and the state behind them: rows -/
def z_st (S : jS) (x : Nat) : jS := ((x, S.1.2), S.2)
def sp_row (r l n : Int32) (S : jS) : Int32 × jS :=
  if iR r 0 7 then if iR l 0 2 then if n.toInt ≤ 40 then if 0 ≤ n.toInt then
    (n, ((0, va_up S.1.2.1 r.toNatClampNeg l.toNatClampNeg, va_up S.1.2.2.1 r.toNatClampNeg n.toNatClampNeg, fun q i => if q = r.toNatClampNeg then 0 else S.1.2.2.2 q i), S.2))
    else (-1000010 - nI 4, z_st S 4) else (-1000001, S) else (-1000001, S) else (-1000001, S)
def sp_set (r i v : Int32) (S : jS) : Int32 × jS :=
  if iR r 0 7 then if S.1.2.1 r.toNatClampNeg = 3 then (-1000010 - nI 1, z_st S 1) else if iN i (S.1.2.2.1 r.toNatClampNeg) then
    (s_cut (S.1.2.1 r.toNatClampNeg) v, ((0, S.1.2.1, S.1.2.2.1, fun q k => if q = r.toNatClampNeg ∧ k = i.toNatClampNeg then s_cut (S.1.2.1 r.toNatClampNeg) v else S.1.2.2.2 q k), S.2))
    else (-1000010 - nI 2, z_st S 2) else (-1000001, S)
def sp_copy (a i b j n : Int32) (S : jS) : Int32 × jS :=
  if iR a 0 7 then if iR b 0 7 then if S.1.2.1 a.toNatClampNeg = 3 then (-1000010 - nI 1, z_st S 1) else if S.1.2.1 b.toNatClampNeg = 3 then (-1000010 - nI 1, z_st S 1) else if S.1.2.1 a.toNatClampNeg = S.1.2.1 b.toNatClampNeg then if iP i n (S.1.2.2.1 a.toNatClampNeg) then if iP j n (S.1.2.2.1 b.toNatClampNeg) then
    (n, ((0, S.1.2.1, S.1.2.2.1, fun q k => if q = b.toNatClampNeg ∧ j.toNatClampNeg ≤ k ∧ k < j.toNatClampNeg + n.toNatClampNeg then S.1.2.2.2 a.toNatClampNeg (i.toNatClampNeg + (k - j.toNatClampNeg)) else S.1.2.2.2 q k), S.2))
    else (-1000010 - nI 2, z_st S 2) else (-1000010 - nI 2, z_st S 2) else (-1000010 - nI 5, z_st S 5) else (-1000001, S) else (-1000001, S)
def sp_drop (r : Int32) (S : jS) : Int32 × jS :=
  if iR r 0 7 then if S.1.2.1 r.toNatClampNeg = 3 then (-1000010 - nI 1, z_st S 1) else
    (nI (S.1.2.2.1 r.toNatClampNeg), ((0, va_up S.1.2.1 r.toNatClampNeg 3, S.1.2.2.1, S.1.2.2.2), S.2))
    else (-1000001, S)
theorem CI.st {h h' : jH} {S : jS} {x : Nat} (c : CI h S) (t : cTop h' x) (E : jEq h h' (fun j => j = 0)) : CI h' (z_st S x) := by
  obtain ⟨c1, c2, c3, c4, c5, c6, c7, c8⟩ := c
  exact ⟨t, cRows.eq E c2 (fun j _ _ q => by omega), cTape.eq E c3 (fun j _ _ q => by omega), cNow.eq E c4 (fun j _ _ q => by omega), cActs.eq E c5 (fun j _ _ q => by omega), cImg.eq E c6 (fun j _ _ q => by omega), cFor.eq E c7 (fun j _ _ q => by omega), cAsk.eq E c8 (fun j _ _ q => by omega)⟩
theorem CI.rows {h h' : jH} {S : jS} {x : Nat} {la ln : Nat → Nat} {it : Nat → Nat → Int32} (c : CI h S) (t : cTop h' x) (r : cRows h' la ln it) (E : jEq h h' (fun j => j < 5)) : CI h' ((x, la, ln, it), S.2) := by
  obtain ⟨c1, c2, c3, c4, c5, c6, c7, c8⟩ := c
  exact ⟨t, r, cTape.eq E c3 (fun j _ _ q => by omega), cNow.eq E c4 (fun j _ _ q => by omega), cActs.eq E c5 (fun j _ _ q => by omega), cImg.eq E c6 (fun j _ _ q => by omega), cFor.eq E c7 (fun j _ _ q => by omega), cAsk.eq E c8 (fun j _ _ q => by omega)⟩
theorem RI.st {h h' : jH} {S : jS} {x : Nat} {s : Nat → Int32} (c : RI h S) (hs : s 1 = nI S.2.1.1 ∧ s 2 = nI S.2.1.2.2 ∧ s 8 = nI S.2.2.2.1.1 ∧ s 9 = nI S.2.2.2.2.2.1) (t : RO h' (upd s 0 (nI x))) (E : jEq h h' (fun j => j = 218)) : RI h' (z_st S x) := by
  obtain ⟨c1, c2, c3, c4, c5, c6, c7, c8⟩ := c
  exact ⟨⟨_, t, rfl, hs.1, hs.2.1, hs.2.2.1, hs.2.2.2⟩, rRows.eq E c2 (fun j _ _ q => by omega), rTape.eq E c3 (by omega), E.at (by omega) c4, rActs.eq E c5 (by omega), rImg.eq E c6 (by omega) (by omega), rScr.eq E c7 (by omega) (by omega) (by omega) (by omega) (by omega) (by omega), rTrace.eq E c8 (by omega)⟩
theorem RI.rows {h h' : jH} {S : jS} {x : Nat} {la ln : Nat → Nat} {it : Nat → Nat → Int32} {s : Nat → Int32} (c : RI h S) (hs : s 1 = nI S.2.1.1 ∧ s 2 = nI S.2.1.2.2 ∧ s 8 = nI S.2.2.2.1.1 ∧ s 9 = nI S.2.2.2.2.2.1) (t : RO h' (upd s 0 (nI x))) (r : rRows h' la ln it) (E : jEq h h' (fun j => 218 ≤ j ∧ j < 223)) : RI h' ((x, la, ln, it), S.2) := by
  obtain ⟨c1, c2, c3, c4, c5, c6, c7, c8⟩ := c
  exact ⟨⟨_, t, rfl, hs.1, hs.2.1, hs.2.2.1, hs.2.2.2⟩, r, rTape.eq E c3 (by omega), E.at (by omega) c4, rActs.eq E c5 (by omega), rImg.eq E c6 (by omega) (by omega), rScr.eq E c7 (by omega) (by omega) (by omega) (by omega) (by omega) (by omega), rTrace.eq E c8 (by omega)⟩
theorem fa_le40 (n : Int32) : n ≤ nI 40 ↔ n.toInt ≤ 40 := by rw [fa_le]; exact Iff.rfl
theorem fa_ge0 (n : Int32) : 0 ≤ n ↔ 0 ≤ n.toInt := by rw [fa_le]; exact Iff.rfl
theorem n_nat {n : Int32} {m : Nat} (h0 : 0 ≤ n.toInt) (h : n.toInt ≤ (m : Int)) (hm : m < 2 ^ 30) : ∃ k : Nat, k ≤ m ∧ n = nI k := by
  obtain ⟨k, hk, e⟩ := iN_of (x := n) (n := m + 1) ⟨h0, by omega⟩ (by omega)
  exact ⟨k, by omega, e⟩
theorem iP1_iff {i : Int32} {n : Nat} : iP i (nI 1) n ↔ iN i n := by
  unfold iP iN
  have : (nI 1).toInt = 1 := by decide
  omega
theorem cLane_inj {x y : Nat} (hx : x ≤ 3) (hy : y ≤ 3) : cLane x = cLane y ↔ x = y := by
  have : ∀ a, a ≤ 3 → ∀ b, b ≤ 3 → (cLane a = cLane b ↔ a = b) := by decide +kernel
  exact this x hx y hy
theorem rLane_inj {x y : Nat} (hx : x ≤ 3) (hy : y ≤ 3) : rLane x = rLane y ↔ x = y := by
  have : ∀ a, a ≤ 3 → ∀ b, b ≤ 3 → (rLane a = rLane b ↔ a = b) := by decide +kernel
  exact this x hx y hy
