/-! THE STATE OF BOTH: what calls can show. Class: cells 0 .. 217; reference: cells 218 .. 234 -/
/-- an int within 0 .. n - 1, within a .. b; a stretch of n places from x on among len -/
abbrev iN (x : Int32) (n : Nat) : Prop := 0 ≤ x.toInt ∧ x.toInt < (n : Int)
abbrev iR (x : Int32) (a b : Nat) : Prop := (a : Int) ≤ x.toInt ∧ x.toInt ≤ (b : Int)
abbrev iP (x n : Int32) (len : Nat) : Prop := 0 ≤ x.toInt ∧ 0 ≤ n.toInt ∧ x.toInt + n.toInt ≤ (len : Int)
theorem iN_of {x : Int32} {n : Nat} (h : iN x n) (hn : n < 2 ^ 31) : ∃ j : Nat, j < n ∧ x = nI j := vp_in_of (vp_in_iff.mpr h) hn
theorem iR_of {x : Int32} {a b : Nat} (h : iR x a b) (hb : b < 2 ^ 30) : ∃ j : Nat, a ≤ j ∧ j ≤ b ∧ x = nI j := by
  obtain ⟨j, hj, rfl⟩ := iN_of (x := x) (n := b + 1) ⟨by have := h.1; omega, by have := h.2; omega⟩ (by omega)
  have e := nI_toInt (n := j) (by omega)
  have h1 := h.1
  have h2 := h.2
  rw [e] at h1 h2
  exact ⟨j, by omega, by omega, rfl⟩
theorem iN_nI {j n : Nat} (hj : j < 2 ^ 31) : iN (nI j) n ↔ j < n := by
  unfold iN
  rw [nI_toInt hj]
  omega
theorem iR_nI {j a b : Nat} (hj : j < 2 ^ 31) : iR (nI j) a b ↔ a ≤ j ∧ j ≤ b := by
  unfold iR
  rw [nI_toInt hj]
  omega
theorem iP_of {x n : Int32} {len : Nat} (h : iP x n len) (hl : len < 2 ^ 30) : ∃ i k : Nat, i + k ≤ len ∧ x = nI i ∧ n = nI k := by
  obtain ⟨h1, h2, h3⟩ := h
  obtain ⟨i, hi, rfl⟩ := iN_of (x := x) (n := len + 1) ⟨h1, by omega⟩ (by omega)
  obtain ⟨k, hk, rfl⟩ := iN_of (x := n) (n := len + 1) ⟨h2, by omega⟩ (by omega)
  rw [nI_toInt (by omega), nI_toInt (by omega)] at h3
  exact ⟨i, k, by omega, rfl, rfl⟩
theorem iR_le {x : Int32} {a b : Nat} (ha : a < 2 ^ 31) (hb : b < 2 ^ 31) : (nI a ≤ x ∧ x ≤ nI b) ↔ iR x a b := by
  rw [fa_le, fa_le, nI_toInt ha, nI_toInt hb]
theorem iN_le {x : Int32} {n : Nat} (hn : n < 1000) : (nI 0 ≤ x ∧ x ≤ nI n - nI 1) ↔ iN x n := by
  rw [fa_le, fa_le, nI_toInt (by decide), pk_sub_toInt (by omega) (by omega)]
  unfold iN
  omega
/-- ((status, lane (3: missing), length, items), (bytes, tape, fault), now, (acts, past), images, (traced, trace)) -/
abbrev jS : Type := (Nat × (Nat → Nat) × (Nat → Nat) × (Nat → Nat → Int32)) × (Nat × (Nat → Nat) × Nat) × hw × (Nat × (Nat → hw)) × (Nat → hw) × (Nat × (Nat → Nat))
/-- a House's cells, whatever they hold -/
def HX (h : jH) (o : Nat) : Prop := ∃ (a0 a1 a2 a3 a4 : Int32) (f k b p g z : Nat → Nat), h[o]? = some (jO 3 [.int a0, .int a1, .int a2, .int a3, .int a4, .ref (o + 1), .ref (o + 2), .ref (o + 3), .ref (o + 4), .ref (o + 5), .ref (o + 6)]) ∧ h[o + 1]? = some (jN 8 f) ∧ h[o + 2]? = some (jN 7 k) ∧ h[o + 3]? = some (jN 7 b) ∧ h[o + 4]? = some (jN 7 p) ∧ h[o + 5]? = some (jN 7 g) ∧ h[o + 6]? = some (jN 8 z)
theorem HA.x {h : jH} {o : Nat} {w : hw} (hA : HA h o w) : HX h o := by
  obtain ⟨f, k, b, p, g, z, hC, -⟩ := hA
  exact ⟨_, _, _, _, _, f, k, b, p, g, z, hC⟩
theorem HX.eq {h h' : jH} {o : Nat} {P : Nat → Prop} (hX : HX h o) (a : jEq h h' P) (hP : ∀ j, P j → ¬ jIn o 7 j) : HX h' o := by
  obtain ⟨a0, a1, a2, a3, a4, f, k, b, p, g, z, h0, h1, h2, h3, h4, h5, h6⟩ := hX
  exact ⟨a0, a1, a2, a3, a4, f, k, b, p, g, z, a.at (fun q => hP _ q ⟨by omega, by omega⟩) h0, a.at (fun q => hP _ q ⟨by omega, by omega⟩) h1, a.at (fun q => hP _ q ⟨by omega, by omega⟩) h2, a.at (fun q => hP _ q ⟨by omega, by omega⟩) h3, a.at (fun q => hP _ q ⟨by omega, by omega⟩) h4, a.at (fun q => hP _ q ⟨by omega, by omega⟩) h5, a.at (fun q => hP _ q ⟨by omega, by omega⟩) h6⟩
theorem m_become {h : jH} {o q : Nat} {w : hw} (T : HX h o) (O : HA h q w) (h8 : w 2 ≤ 8) (h7 : w 3 ≤ 7) (hq : o + 7 ≤ q ∨ q + 7 ≤ o) : jM yX3_become cX3_become 2 (none : Option Jvm.ClassFile.FieldType) 1 none [.ref o, .ref q] h (fun v h' => v = none ∧ HA h' o w ∧ jEq h h' (jIn o 7)) := by
  obtain ⟨a0, a1, a2, a3, a4, f0, k0, b0, p0, g0, z0, T0, T1, T2, T3, T4, T5, T6⟩ := T
  obtain ⟨f, k, b, p, g, z, hC, hV⟩ := O
  exact mc_X3_become T0 T1 T2 T3 T4 T5 T6 hC hV h8 h7 hq
-- the class
abbrev cTop (h : jH) (st : Nat) : Prop := h[0]? = some (jO 6 [.ref 1, .ref 5, .ref 14, .ref 21, .ref 191, .ref 206, .ref 216, .int (nI st)])
def cLane (x : Nat) : Int32 := if x = 3 then -1 else nI x
def rLane (x : Nat) : Int32 := if x = 3 then -1000000 else nI x
def cRows (h : jH) (la ln : Nat → Nat) (it : Nat → Nat → Int32) : Prop := h[1]? = some (jO 4 [.ref 2, .ref 3, .ref 4]) ∧ ∃ (L I : Nat → Int32) (N : Nat → Nat), h[2]? = some (jI 8 L) ∧ h[3]? = some (jN 8 N) ∧ h[4]? = some (jI 320 I) ∧ (∀ r, r < 8 → L r = cLane (la r)) ∧ (∀ r, r < 8 → N r = ln r) ∧ (∀ r, r < 8 → ∀ i, i < ln r → I (40 * r + i) = it r i)
def cTape (h : jH) (tl : Nat) (tb : Nat → Nat) (fk : Nat) : Prop := (∃ at_ : Int32, h[5]? = some (jO 5 [.ref 6, .ref 13, .int (nI tl), .int at_, .int (nI fk)])) ∧ HX h 6 ∧ ∃ B : Nat → Nat, h[13]? = some (jN 100 B) ∧ ∀ i, i < tl → B i = tb i
def cActs (h : jH) (an : Nat) (ap : Nat → hw) : Prop := ∃ (nx : Nat) (rf : Nat → Option Nat), nx < 24 ∧ h[21]? = some (jO 0 [.ref 22, .int (nI nx), .int (nI an)]) ∧ h[22]? = some (jR 24 rf) ∧ (∀ i, i < 24 → rf i = some (23 + 7 * i)) ∧ (∀ i, i < 24 → HX h (23 + 7 * i)) ∧ (∀ j, j < an → HA h (23 + 7 * ((nx + 24 - an + j) % 24)) (ap j))
def cImg (h : jH) (iw : Nat → hw) : Prop := (∃ rf : Nat → Option Nat, h[191]? = some (jR 2 rf) ∧ ∀ i, i < 2 → rf i = some (192 + 7 * i)) ∧ ∀ k, k < 2 → HA h (192 + 7 * k) (iw k)
def cFor (h : jH) : Prop := h[206]? = some (jO 2 [.ref 207, .ref 214, .ref 215]) ∧ HX h 207 ∧ (∃ f : Nat → Nat, h[214]? = some (jN 25 f)) ∧ (∃ f : Nat → Nat, h[215]? = some (jN 25 f))
def cAsk (h : jH) (tn : Nat) (tr : Nat → Nat) : Prop := h[216]? = some (jO 1 [.ref 217, .int (nI tn)]) ∧ ∃ f : Nat → Nat, h[217]? = some (jN 16 f) ∧ ∀ i, i < tn → f i = tr i
def CI (h : jH) (S : jS) : Prop := cTop h S.1.1 ∧ cRows h S.1.2.1 S.1.2.2.1 S.1.2.2.2 ∧ cTape h S.2.1.1 S.2.1.2.1 S.2.1.2.2 ∧ HA h 14 S.2.2.1 ∧ cActs h S.2.2.2.1.1 S.2.2.2.1.2 ∧ cImg h S.2.2.2.2.1 ∧ cFor h ∧ cAsk h S.2.2.2.2.2.1 S.2.2.2.2.2.2
section Ceq
variable {h h' : jH} {P : Nat → Prop} (a : jEq h h' P)
theorem cTop.eq {st : Nat} (a : jEq h h' P) (c : cTop h st) (hP : ¬ P 0) : cTop h' st := a.at hP c
theorem cRows.eq {la ln : Nat → Nat} {it : Nat → Nat → Int32} (a : jEq h h' P) (c : cRows h la ln it) (hP : ∀ j, 1 ≤ j → j < 5 → ¬ P j) : cRows h' la ln it := by
  obtain ⟨c1, L, I, N, c2, c3, c4, c5⟩ := c
  exact ⟨a.at (hP _ (by omega) (by omega)) c1, L, I, N, a.at (hP _ (by omega) (by omega)) c2, a.at (hP _ (by omega) (by omega)) c3, a.at (hP _ (by omega) (by omega)) c4, c5⟩
theorem cTape.eq {tl : Nat} {tb : Nat → Nat} {fk : Nat} (a : jEq h h' P) (c : cTape h tl tb fk) (hP : ∀ j, 5 ≤ j → j < 14 → ¬ P j) : cTape h' tl tb fk := by
  obtain ⟨⟨at_, c1⟩, c2, B, c3, c4⟩ := c
  exact ⟨⟨at_, a.at (hP _ (by omega) (by omega)) c1⟩, c2.eq a (fun j q b => hP j (by unfold jIn at b; omega) (by unfold jIn at b; omega) q), B, a.at (hP _ (by omega) (by omega)) c3, c4⟩
theorem cNow.eq {w : hw} (a : jEq h h' P) (c : HA h 14 w) (hP : ∀ j, 14 ≤ j → j < 21 → ¬ P j) : HA h' 14 w := c.eq a (fun j q b => hP j (by unfold jIn at b; omega) (by unfold jIn at b; omega) q)
theorem cActs.eq {an : Nat} {ap : Nat → hw} (a : jEq h h' P) (c : cActs h an ap) (hP : ∀ j, 21 ≤ j → j < 191 → ¬ P j) : cActs h' an ap := by
  obtain ⟨nx, rf, c0, c1, c2, c3, c4, c5⟩ := c
  exact ⟨nx, rf, c0, a.at (hP _ (by omega) (by omega)) c1, a.at (hP _ (by omega) (by omega)) c2, c3, fun i hi => (c4 i hi).eq a (fun j q b => hP j (by unfold jIn at b; omega) (by unfold jIn at b; omega) q), fun i hi => (c5 i hi).eq a (fun j q b => hP j (by unfold jIn at b; omega) (by unfold jIn at b; omega) q)⟩
theorem cImg.eq {iw : Nat → hw} (a : jEq h h' P) (c : cImg h iw) (hP : ∀ j, 191 ≤ j → j < 206 → ¬ P j) : cImg h' iw := by
  obtain ⟨⟨rf, c1, c2⟩, c3⟩ := c
  exact ⟨⟨rf, a.at (hP _ (by omega) (by omega)) c1, c2⟩, fun i hi => (c3 i hi).eq a (fun j q b => hP j (by unfold jIn at b; omega) (by unfold jIn at b; omega) q)⟩
theorem cFor.eq (a : jEq h h' P) (c : cFor h) (hP : ∀ j, 206 ≤ j → j < 216 → ¬ P j) : cFor h' := by
  obtain ⟨c1, c2, ⟨f, c3⟩, g, c4⟩ := c
  exact ⟨a.at (hP _ (by omega) (by omega)) c1, c2.eq a (fun j q b => hP j (by unfold jIn at b; omega) (by unfold jIn at b; omega) q), ⟨f, a.at (hP _ (by omega) (by omega)) c3⟩, g, a.at (hP _ (by omega) (by omega)) c4⟩
theorem cAsk.eq {tn : Nat} {tr : Nat → Nat} (a : jEq h h' P) (c : cAsk h tn tr) (hP : ∀ j, 216 ≤ j → j < 218 → ¬ P j) : cAsk h' tn tr := by
  obtain ⟨c1, f, c2, c3⟩ := c
  exact ⟨a.at (hP _ (by omega) (by omega)) c1, f, a.at (hP _ (by omega) (by omega)) c2, c3⟩
theorem CI.eq {S : jS} (a : jEq h h' P) (c : CI h S) (hP : ∀ j, P j → 218 ≤ j) : CI h' S := by
  obtain ⟨c1, c2, c3, c4, c5, c6, c7, c8⟩ := c
  have n : ∀ j, j < 218 → ¬ P j := fun j hj q => absurd (hP j q) (by omega)
  exact ⟨cTop.eq a c1 (n 0 (by omega)), cRows.eq a c2 (fun j _ _ => n j (by omega)), cTape.eq a c3 (fun j _ _ => n j (by omega)), cNow.eq a c4 (fun j _ _ => n j (by omega)), cActs.eq a c5 (fun j _ _ => n j (by omega)), cImg.eq a c6 (fun j _ _ => n j (by omega)), cFor.eq a c7 (fun j _ _ => n j (by omega)), cAsk.eq a c8 (fun j _ _ => n j (by omega))⟩
end Ceq
-- the reference: 219 lane, 220 many, 221 items, 222 spare, 223 tape, 224 now, 225 draft, 226 tried, 227 past, 228 images, 229 kept, 230 fires, 231 blown, 232 ones, 233 others, 234 trace
def rRows (h : jH) (la ln : Nat → Nat) (it : Nat → Nat → Int32) : Prop := ∃ (L I Sp : Nat → Int32) (N : Nat → Nat), h[219]? = some (jI 8 L) ∧ h[220]? = some (jN 8 N) ∧ h[221]? = some (jI 320 I) ∧ h[222]? = some (jI 40 Sp) ∧ (∀ r, r < 8 → L r = rLane (la r)) ∧ (∀ r, r < 8 → N r = ln r) ∧ (∀ r, r < 8 → ∀ i, i < ln r → I (40 * r + i) = it r i)
def rTape (h : jH) (tl : Nat) (tb : Nat → Nat) : Prop := ∃ B : Nat → Nat, h[223]? = some (jN 100 B) ∧ ∀ i, i < tl → B i = tb i
def rActs (h : jH) (an : Nat) (ap : Nat → hw) : Prop := ∃ Pa : Nat → Nat, h[227]? = some (jN 984 Pa) ∧ ∀ j, j < an → ∀ k, k < 41 → Pa (41 * j + k) = ap j k
def rImg (h : jH) (iw : Nat → hw) : Prop := ∃ (Im : Nat → Nat) (K : Nat → Int32), h[228]? = some (jN 82 Im) ∧ h[229]? = some (jZ 2 K) ∧ (∀ j, j < 2 → K j = jb (0 < iw j 2)) ∧ (∀ j, j < 2 → ∀ k, k < 41 → Im (41 * j + k) = iw j k)
def rScr (h : jH) : Prop := (∃ f : Nat → Nat, h[225]? = some (jN 41 f)) ∧ (∃ f : Nat → Nat, h[226]? = some (jN 41 f)) ∧ (∃ f : Nat → Nat, h[230]? = some (jN 8 f)) ∧ (∃ f : Nat → Nat, h[231]? = some (jN 8 f)) ∧ (∃ f : Nat → Nat, h[232]? = some (jN 25 f)) ∧ (∃ f : Nat → Nat, h[233]? = some (jN 25 f))
def rTrace (h : jH) (tn : Nat) (tr : Nat → Nat) : Prop := ∃ f : Nat → Nat, h[234]? = some (jN 16 f) ∧ ∀ i, i < tn → f i = tr i
/-- the reference's ten numbers: 0 status, 1 taped, 2 faultKind, 3 faultPlace, 4 at, 5 start, 6 token, 7 value, 8 acts, 9 traced -/
def rTop (h : jH) (st tl fk an tn : Nat) : Prop := ∃ s : Nat → Int32, RO h s ∧ s 0 = nI st ∧ s 1 = nI tl ∧ s 2 = nI fk ∧ s 8 = nI an ∧ s 9 = nI tn
def RI (h : jH) (S : jS) : Prop := rTop h S.1.1 S.2.1.1 S.2.1.2.2 S.2.2.2.1.1 S.2.2.2.2.2.1 ∧ rRows h S.1.2.1 S.1.2.2.1 S.1.2.2.2 ∧ rTape h S.2.1.1 S.2.1.2.1 ∧ h[224]? = some (jN 41 S.2.2.1) ∧ rActs h S.2.2.2.1.1 S.2.2.2.1.2 ∧ rImg h S.2.2.2.2.1 ∧ rScr h ∧ rTrace h S.2.2.2.2.2.1 S.2.2.2.2.2.2
section Req
variable {h h' : jH} {P : Nat → Prop}
theorem rTop.eq {st tl fk an tn : Nat} (a : jEq h h' P) (c : rTop h st tl fk an tn) (hP : ¬ P 218) : rTop h' st tl fk an tn := by
  obtain ⟨s, c1, c2⟩ := c
  exact ⟨s, a.at hP c1, c2⟩
theorem rRows.eq {la ln : Nat → Nat} {it : Nat → Nat → Int32} (a : jEq h h' P) (c : rRows h la ln it) (hP : ∀ j, 219 ≤ j → j < 223 → ¬ P j) : rRows h' la ln it := by
  obtain ⟨L, I, Sp, N, c1, c2, c3, c4, c5⟩ := c
  exact ⟨L, I, Sp, N, a.at (hP _ (by omega) (by omega)) c1, a.at (hP _ (by omega) (by omega)) c2, a.at (hP _ (by omega) (by omega)) c3, a.at (hP _ (by omega) (by omega)) c4, c5⟩
theorem rTape.eq {tl : Nat} {tb : Nat → Nat} (a : jEq h h' P) (c : rTape h tl tb) (hP : ¬ P 223) : rTape h' tl tb := by
  obtain ⟨B, c1, c2⟩ := c
  exact ⟨B, a.at hP c1, c2⟩
theorem rActs.eq {an : Nat} {ap : Nat → hw} (a : jEq h h' P) (c : rActs h an ap) (hP : ¬ P 227) : rActs h' an ap := by
  obtain ⟨B, c1, c2⟩ := c
  exact ⟨B, a.at hP c1, c2⟩
theorem rImg.eq {iw : Nat → hw} (a : jEq h h' P) (c : rImg h iw) (hP : ¬ P 228) (hP2 : ¬ P 229) : rImg h' iw := by
  obtain ⟨B, K, c1, c2, c3⟩ := c
  exact ⟨B, K, a.at hP c1, a.at hP2 c2, c3⟩
theorem rTrace.eq {tn : Nat} {tr : Nat → Nat} (a : jEq h h' P) (c : rTrace h tn tr) (hP : ¬ P 234) : rTrace h' tn tr := by
  obtain ⟨B, c1, c2⟩ := c
  exact ⟨B, a.at hP c1, c2⟩
theorem rScr.eq (a : jEq h h' P) (c : rScr h) (h1 : ¬ P 225) (h2 : ¬ P 226) (h3 : ¬ P 230) (h4 : ¬ P 231) (h5 : ¬ P 232) (h6 : ¬ P 233) : rScr h' := by
  obtain ⟨⟨f1, c1⟩, ⟨f2, c2⟩, ⟨f3, c3⟩, ⟨f4, c4⟩, ⟨f5, c5⟩, f6, c6⟩ := c
  exact ⟨⟨f1, a.at h1 c1⟩, ⟨f2, a.at h2 c2⟩, ⟨f3, a.at h3 c3⟩, ⟨f4, a.at h4 c4⟩, ⟨f5, a.at h5 c5⟩, f6, a.at h6 c6⟩
theorem RI.eq {S : jS} (a : jEq h h' P) (c : RI h S) (hP : ∀ j, P j → j < 218) : RI h' S := by
  obtain ⟨c1, c2, c3, c4, c5, c6, c7, c8⟩ := c
  have n : ∀ j, 218 ≤ j → ¬ P j := fun j hj q => absurd (hP j q) (by omega)
  exact ⟨rTop.eq a c1 (n _ (by omega)), rRows.eq a c2 (fun j _ _ => n j (by omega)), rTape.eq a c3 (n _ (by omega)), a.at (n _ (by omega)) c4, rActs.eq a c5 (n _ (by omega)), rImg.eq a c6 (n _ (by omega)) (n _ (by omega)), rScr.eq a c7 (n _ (by omega)) (n _ (by omega)) (n _ (by omega)) (n _ (by omega)) (n _ (by omega)) (n _ (by omega)), rTrace.eq a c8 (n _ (by omega))⟩
end Req
/-- what holds of every state -/
def SG (S : jS) : Prop := S.1.1 ≤ 5 ∧ (∀ r, r < 8 → S.1.2.1 r ≤ 3 ∧ S.1.2.2.1 r ≤ 40) ∧ (S.2.1.1 ≤ 100 ∧ (∀ i, i < S.2.1.1 → S.2.1.2.1 i ≤ 255) ∧ S.2.1.2.2 ≤ 3) ∧ (g_ok S.2.2.1 ∧ S.2.2.1 4 ≤ 9999 ∧ (0 < S.2.2.1 2 ↔ 0 < S.2.2.1 1)) ∧ (S.2.2.2.1.1 ≤ 24 ∧ ∀ j, j < S.2.2.2.1.1 → g_ok (S.2.2.2.1.2 j) ∧ S.2.2.2.1.2 j 4 ≤ 9999 ∧ (0 < S.2.2.2.1.2 j 2 ↔ 0 < S.2.2.2.1.2 j 1)) ∧ (∀ k, k < 2 → g_ok (S.2.2.2.2.1 k) ∧ S.2.2.2.2.1 k 4 ≤ 9999 ∧ (0 < S.2.2.2.2.1 k 2 ↔ 0 < S.2.2.2.2.1 k 1)) ∧ (S.2.2.2.2.2.1 ≤ 16 ∧ ∀ i, i < S.2.2.2.2.2.1 → S.2.2.2.2.2.2 i ≤ 100)
/-- what a class method may touch; what a method of the reference may -/
def jLo : Nat → Prop := fun j => j < 218
def jHi : Nat → Prop := fun j => 218 ≤ j
/-- the class answers as told -/
def cAns (h : jH) (r : Int32 × jS) : Option Value → jH → Prop := fun v h' => v = some (.int r.1) ∧ CI h' r.2 ∧ jEq h h' jLo
def rAns (h : jH) (r : Int32 × jS) : Option Value → jH → Prop := fun v h' => v = some (.int r.1) ∧ RI h' r.2 ∧ jEq h h' jHi
theorem cAns.same {h : jH} {S : jS} {x y : Int32} (c : CI h S) (e : x = y) : cAns h (y, S) (some (.int x)) h := ⟨by rw [e], c, jEq.rf⟩
theorem rAns.same {h : jH} {S : jS} {x y : Int32} (c : RI h S) (e : x = y) : rAns h (y, S) (some (.int x)) h := ⟨by rw [e], c, jEq.rf⟩
