/-! what the calls answer, and the state behind them: houses and acts -/
def z_now (S : jS) (w : hw) (an : Nat) (ap : Nat → hw) : jS := (S.1, S.2.1, w, (an, ap), S.2.2.2.2)
/-- an ACT: what was is kept -/
def z_act (S : jS) (w : hw) : jS := z_now S w (min (S.2.2.2.1.1 + 1) 24) (s_noteP S.2.2.2.1.1 S.2.2.2.1.2 S.2.2.1)
def s_daysN : Nat → jS → jS
  | 0, S => S
  | n + 1, S => s_daysN n (z_act S (s_pass S.2.2.1))
def sp_days (n : Int32) (S : jS) : Int32 × jS :=
  if 0 < S.2.2.1 2 then if iR n 1 24 then if S.2.2.1 4 + n.toNatClampNeg ≤ 9999 then (nI (s_lit (s_daysN n.toNatClampNeg S).2.2.1 ((s_daysN n.toNatClampNeg S).2.2.1 2)), s_daysN n.toNatClampNeg S) else (-1000003, S) else (-1000001, S) else (-1000002, S)
def sp_peg (x v : Int32) (S : jS) : Int32 × jS :=
  if iN x (S.2.2.1 3) then if iR v 0 1 then if S.2.2.1 (13 + 4 * x.toNatClampNeg + 3) = v.toNatClampNeg then (-1000002, S) else
    (nI (s_pegs (va_up S.2.2.1 (13 + 4 * x.toNatClampNeg + 3) v.toNatClampNeg) (S.2.2.1 3)), z_act S (va_up S.2.2.1 (13 + 4 * x.toNatClampNeg + 3) v.toNatClampNeg)) else (-1000001, S) else (-1000001, S)
def sp_move (x y : Int32) (S : jS) : Int32 × jS :=
  if iN x (S.2.2.1 3) then if iN y (S.2.2.1 2) then if S.2.2.1 (13 + 4 * x.toNatClampNeg + 2) = y.toNatClampNeg then (-1000002, S) else
    (nI (S.2.2.1 (13 + 4 * x.toNatClampNeg + 2)), z_act S (va_up S.2.2.1 (13 + 4 * x.toNatClampNeg + 2) y.toNatClampNeg)) else (-1000001, S) else (-1000001, S)
def sp_light (x v : Int32) (S : jS) : Int32 × jS :=
  if iN x (S.2.2.1 2) then if iR v 0 20 then (nI (S.2.2.1 (5 + x.toNatClampNeg)), z_act S (va_up S.2.2.1 (5 + x.toNatClampNeg) v.toNatClampNeg)) else (-1000001, S) else (-1000001, S)
def sp_weather (v : Int32) (S : jS) : Int32 × jS :=
  if 0 < S.2.2.1 2 then if iR v 0 15 then (nI (S.2.2.1 0), z_act S (va_up S.2.2.1 0 v.toNatClampNeg)) else (-1000001, S) else (-1000002, S)
def sp_undo (S : jS) : Int32 × jS :=
  if S.2.2.2.1.1 = 0 then (-1000002, S) else (nI (S.2.2.2.1.1 - 1), z_now S (S.2.2.2.1.2 (S.2.2.2.1.1 - 1)) (S.2.2.2.1.1 - 1) S.2.2.2.1.2)
def sp_pair (x v : Int32) (S : jS) : Int32 :=
  if iN x (S.2.2.1 3) then if v = 0 then nI (S.2.2.1 (13 + 4 * x.toNatClampNeg + 1)) else if v = 1 then nI (S.2.2.1 (13 + 4 * x.toNatClampNeg + 2)) else if v = 2 then nI (S.2.2.1 (13 + 4 * x.toNatClampNeg + 3)) else if v = 3 then nI (s_keep S.2.2.1 x.toNatClampNeg) - nI (S.2.2.1 (13 + 4 * x.toNatClampNeg + 1)) else -1000001 else -1000001
def sp_hearth (x v : Int32) (S : jS) : Int32 :=
  if iN x (S.2.2.1 2) then if v = 0 then nI (S.2.2.1 (5 + x.toNatClampNeg)) else if v = 1 then jb (0 < S.2.2.1 (5 + x.toNatClampNeg)) else if v = 2 then nI (s_at S.2.2.1 x.toNatClampNeg (S.2.2.1 3)) else if v = 3 then nI (s_blown S.2.2.1 x.toNatClampNeg (S.2.2.1 3)) else -1000001 else -1000001
def sp_image (k : Int32) (S : jS) : Int32 × jS :=
  if iR k 0 1 then if 0 < S.2.2.1 2 then (nI 1, (S.1, S.2.1, S.2.2.1, S.2.2.2.1, (fun j => if j = k.toNatClampNeg then S.2.2.1 else S.2.2.2.2.1 j), S.2.2.2.2.2)) else (-1000002, S) else (-1000001, S)
def sp_restore (k : Int32) (S : jS) : Int32 × jS :=
  if iR k 0 1 then if 0 < S.2.2.2.2.1 k.toNatClampNeg 2 then (nI 1, z_now S (S.2.2.2.2.1 k.toNatClampNeg) 0 S.2.2.2.1.2) else (-1000002, S) else (-1000001, S)
def sp_kind (x : Int32) (S : jS) : Int32 := if iN x (S.2.2.1 3) then nI (S.2.2.1 (13 + 4 * x.toNatClampNeg)) else -1000001
def sp_feed (x : Int32) (S : jS) : Int32 × jS :=
  if iR x 0 255 then if S.2.1.1 = 100 then (-1000003, S) else (nI (S.2.1.1 + 1), (S.1, (S.2.1.1 + 1, va_up S.2.1.2.1 S.2.1.1 x.toNatClampNeg, S.2.1.2.2), S.2.2)) else (-1000001, S)
def sp_trace (i : Int32) (S : jS) : Int32 := if iN i S.2.2.2.2.2.1 then nI (S.2.2.2.2.2.2 i.toNatClampNeg) else -1000000
def sp_count (v : Int32) (S : jS) : Int32 :=
  if v = 0 then nI (s_pres S.1.2.1 8) else if v = 1 then nI (S.2.2.1 2) else if v = 2 then nI (S.2.2.1 3) else if v = 3 then nI (S.2.2.1 4) else if v = 4 then nI (S.2.2.1 0) else if v = 5 then nI (S.2.2.1 1) else if v = 6 then nI (s_lit S.2.2.1 (S.2.2.1 2)) else if v = 7 then nI (s_pegs S.2.2.1 (S.2.2.1 3)) else if v = 8 then nI S.2.2.2.1.1 else if v = 9 then nI S.2.1.1 else -1000001
theorem CI.now {h h' : jH} {S : jS} {w : hw} {an : Nat} {ap : Nat → hw} (c : CI h S) (n : HA h' 14 w) (t : cActs h' an ap) (E : jEq h h' (fun j => 14 ≤ j ∧ j < 191)) : CI h' (z_now S w an ap) := by
  obtain ⟨c1, c2, c3, c4, c5, c6, c7, c8⟩ := c
  exact ⟨cTop.eq E c1 (by omega), cRows.eq E c2 (fun j _ _ q => by omega), cTape.eq E c3 (fun j _ _ q => by omega), n, t, cImg.eq E c6 (fun j _ _ q => by omega), cFor.eq E c7 (fun j _ _ q => by omega), cAsk.eq E c8 (fun j _ _ q => by omega)⟩
/-- the reference behind an ACT: its numbers but that of the ACTS, its rows, tape, images, trace as they were -/
theorem RI.now {h h' : jH} {S : jS} {w : hw} {an : Nat} {ap : Nat → hw} {s s' : Nat → Int32} (c : RI h S) (hs : s 0 = nI S.1.1 ∧ s 1 = nI S.2.1.1 ∧ s 2 = nI S.2.1.2.2 ∧ s 9 = nI S.2.2.2.2.2.1) (t : RO h' s') (h8 : s' 8 = nI an) (hk : ∀ k, k ≠ 8 → s' k = s k) (n : h'[224]? = some (jN 41 w)) (r : rActs h' an ap) (x : rScr h') (E : jEq h h' (fun j => j = 218 ∨ j = 224 ∨ j = 225 ∨ j = 226 ∨ j = 227 ∨ j = 230 ∨ j = 231)) : RI h' (z_now S w an ap) := by
  obtain ⟨c1, c2, c3, c4, c5, c6, c7, c8⟩ := c
  exact ⟨⟨s', t, by rw [hk 0 (by omega)]; exact hs.1, by rw [hk 1 (by omega)]; exact hs.2.1, by rw [hk 2 (by omega)]; exact hs.2.2.1, h8, by rw [hk 9 (by omega)]; exact hs.2.2.2⟩, rRows.eq E c2 (fun j _ _ q => by omega), rTape.eq E c3 (by omega), n, r, rImg.eq E c6 (by omega) (by omega), x, rTrace.eq E c8 (by omega)⟩
/-- only scratch of the reference changed -/
theorem RI.scr {h h' : jH} {S : jS} (c : RI h S) (x : rScr h') (E : jEq h h' (fun j => j = 226 ∨ j = 230 ∨ j = 231 ∨ j = 232 ∨ j = 233)) : RI h' S := by
  obtain ⟨c1, c2, c3, c4, c5, c6, c7, c8⟩ := c
  exact ⟨rTop.eq E c1 (by omega), rRows.eq E c2 (fun j _ _ q => by omega), rTape.eq E c3 (by omega), E.at (by omega) c4, rActs.eq E c5 (by omega), rImg.eq E c6 (by omega) (by omega), x, rTrace.eq E c8 (by omega)⟩
/-- only scratch of the class changed -/
theorem CI.scr {h h' : jH} {S : jS} (c : CI h S) (x : cFor h') (E : jEq h h' (fun j => 206 ≤ j ∧ j < 216)) : CI h' S := by
  obtain ⟨c1, c2, c3, c4, c5, c6, c7, c8⟩ := c
  exact ⟨cTop.eq E c1 (by omega), cRows.eq E c2 (fun j _ _ q => by omega), cTape.eq E c3 (fun j _ _ q => by omega), cNow.eq E c4 (fun j _ _ q => by omega), cActs.eq E c5 (fun j _ _ q => by omega), cImg.eq E c6 (fun j _ _ q => by omega), x, cAsk.eq E c8 (fun j _ _ q => by omega)⟩
theorem HA.sh {h : jH} {o : Nat} {w : hw} (hA : HA h o w) : ∃ fs, h[o]? = some (jO 3 fs) := by
  obtain ⟨f, k, b, p, g, z, hC, -⟩ := hA
  exact ⟨_, hC.1⟩
/-- an entry of a House changes -/
theorem HV.setg {w : hw} {f k b p g : Nat → Nat} {i v : Nat} (hV : HV w f k b p g) (h2 : w 2 ≤ 8) : HV (va_up w (13 + 4 * i + 3) v) f k b p (va_up g i v) := by
  unfold HV va_up
  rw [if_neg (by omega), if_neg (by omega)]
  refine ⟨fun j hj => ?_, fun q hq => ?_⟩
  · rw [if_neg (by omega)]; exact hV.1 j hj
  · obtain ⟨a1, a2, a3, a4⟩ := hV.2 q hq
    rw [if_neg (by omega), if_neg (by omega), if_neg (by omega)]
    refine ⟨a1, a2, a3, ?_⟩
    by_cases e : q = i
    · rw [if_pos e, if_pos (by omega)]
    · rw [if_neg e, if_neg (by omega)]; exact a4
theorem HV.setp {w : hw} {f k b p g : Nat → Nat} {i v : Nat} (hV : HV w f k b p g) (h2 : w 2 ≤ 8) : HV (va_up w (13 + 4 * i + 2) v) f k b (va_up p i v) g := by
  unfold HV va_up
  rw [if_neg (by omega), if_neg (by omega)]
  refine ⟨fun j hj => ?_, fun q hq => ?_⟩
  · rw [if_neg (by omega)]; exact hV.1 j hj
  · obtain ⟨a1, a2, a3, a4⟩ := hV.2 q hq
    rw [if_neg (by omega), if_neg (by omega), if_neg (show ¬ 13 + 4 * q + 3 = 13 + 4 * i + 2 by omega)]
    refine ⟨a1, a2, ?_, a4⟩
    by_cases e : q = i
    · rw [if_pos e, if_pos (by omega)]
    · rw [if_neg e, if_neg (by omega)]; exact a3
theorem HV.setf {w : hw} {f k b p g : Nat → Nat} {i v : Nat} (hV : HV w f k b p g) (hi : i < 8) : HV (va_up w (5 + i) v) (va_up f i v) k b p g := by
  unfold HV va_up
  rw [if_neg (by omega), if_neg (by omega)]
  refine ⟨fun j hj => ?_, fun q hq => ?_⟩
  · by_cases e : j = i
    · rw [if_pos e, if_pos (by omega)]
    · rw [if_neg e, if_neg (by omega)]; exact hV.1 j hj
  · rw [if_neg (by omega), if_neg (by omega), if_neg (by omega), if_neg (by omega)]
    exact hV.2 q hq
theorem HV.set0 {w : hw} {f k b p g : Nat → Nat} {v : Nat} (hV : HV w f k b p g) : HV (va_up w 0 v) f k b p g := by
  unfold HV va_up
  rw [if_neg (by omega), if_neg (by omega)]
  refine ⟨fun j hj => ?_, fun q hq => ?_⟩
  · rw [if_neg (by omega)]; exact hV.1 j hj
  · rw [if_neg (by omega), if_neg (by omega), if_neg (by omega), if_neg (by omega)]
    exact hV.2 q hq
theorem HC.w {h : jH} {o : Nat} {w w' : hw} {f k b p g z : Nat → Nat} (hC : HC h o w f k b p g z) (e : ∀ j, j < 5 → w' j = w j) : HC h o w' f k b p g z := by
  unfold HC at hC ⊢
  rw [e 0 (by omega), e 1 (by omega), e 2 (by omega), e 3 (by omega), e 4 (by omega)]
  exact hC
theorem va_up_ge {w : hw} {i v : Nat} (hi : 5 ≤ i) : ∀ j, j < 5 → va_up w i v j = w j := fun j hj => by
  unfold va_up
  rw [if_neg (by omega)]
/-- entries of a good house that stay good -/
theorem g_ok.peg {w : hw} {i v : Nat} (ok : g_ok w) (hv : v ≤ 1) : g_ok (va_up w (13 + 4 * i + 3) v) := by
  obtain ⟨h0, h1, h2, h3, h4, h5⟩ := ok
  unfold g_ok va_up
  rw [if_neg (by omega), if_neg (by omega), if_neg (by omega), if_neg (by omega)]
  refine ⟨h0, h1, h2, h3, fun j hj => ?_, fun q hq => ?_⟩
  · rw [if_neg (by omega)]; exact h4 j hj
  · obtain ⟨a1, a2, a3, a4, a5⟩ := h5 q hq
    rw [if_neg (by omega), if_neg (by omega), if_neg (by omega)]
    refine ⟨a1, a2, a3, a4, ?_⟩
    split
    · exact hv
    · exact a5
theorem g_ok.place {w : hw} {i v : Nat} (ok : g_ok w) (hv : v < w 2) : g_ok (va_up w (13 + 4 * i + 2) v) := by
  obtain ⟨h0, h1, h2, h3, h4, h5⟩ := ok
  unfold g_ok va_up
  rw [if_neg (by omega), if_neg (by omega), if_neg (by omega), if_neg (by omega)]
  refine ⟨h0, h1, h2, h3, fun j hj => ?_, fun q hq => ?_⟩
  · rw [if_neg (by omega)]; exact h4 j hj
  · obtain ⟨a1, a2, a3, a4, a5⟩ := h5 q hq
    rw [if_neg (by omega), if_neg (by omega), if_neg (show ¬ 13 + 4 * q + 3 = 13 + 4 * i + 2 by omega)]
    refine ⟨a1, a2, a3, ?_, a5⟩
    split
    · exact hv
    · exact a4
theorem g_ok.fire {w : hw} {i v : Nat} (ok : g_ok w) (hi : i < 8) (hv : v ≤ 99) : g_ok (va_up w (5 + i) v) := by
  obtain ⟨h0, h1, h2, h3, h4, h5⟩ := ok
  unfold g_ok va_up
  rw [if_neg (by omega), if_neg (by omega), if_neg (by omega), if_neg (by omega)]
  refine ⟨h0, h1, h2, h3, fun j hj => ?_, fun q hq => ?_⟩
  · split
    · exact hv
    · exact h4 j hj
  · rw [if_neg (by omega), if_neg (by omega), if_neg (by omega), if_neg (by omega)]
    exact h5 q hq
theorem g_ok.warm {w : hw} {v : Nat} (ok : g_ok w) (hv : v ≤ 15) : g_ok (va_up w 0 v) := by
  obtain ⟨h0, h1, h2, h3, h4, h5⟩ := ok
  unfold g_ok va_up
  rw [if_pos rfl, if_neg (by omega), if_neg (by omega), if_neg (by omega)]
  refine ⟨hv, h1, h2, h3, fun j hj => ?_, fun q hq => ?_⟩
  · rw [if_neg (by omega)]; exact h4 j hj
  · rw [if_neg (by omega), if_neg (by omega), if_neg (by omega), if_neg (by omega)]
    exact h5 q hq
