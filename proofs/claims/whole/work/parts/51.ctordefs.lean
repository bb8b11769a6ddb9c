/-! what is made -/
theorem jap {h h1 : jH} {c c0 : jC} {j : Nat} (hh : h1 = h ++ [c]) (f : h[j]? = some c0) : h1[j]? = some c0 := by
  rw [hh, List.getElem?_append_left (List.getElem?_eq_some_iff.mp f).1]
  exact f
theorem jap_new {h h1 : jH} {c : jC} {L : Nat} (hh : h1 = h ++ [c]) (hl : h.length = L) : h1[L]? = some c := by
  rw [hh, ← hl]
  simp
theorem jap_len {h h1 : jH} {c : jC} {L : Nat} (hh : h1 = h ++ [c]) (hl : h.length = L) : h1.length = L + 1 := by
  rw [hh]
  simp [hl]
theorem jset_len {h h1 : jH} {i : Nat} {c : jC} {L : Nat} (hh : h1 = h.set i c) (hl : h.length = L) : h1.length = L := by
  rw [hh]
  simp [hl]
/-- below o nothing changed -/
def jP (h h' : jH) (o : Nat) : Prop := ∀ j, j < o → h'[j]? = h[j]?
theorem jP.rf {h : jH} {o : Nat} : jP h h o := fun _ _ => rfl
theorem jP.ap {h0 h h1 : jH} {o L : Nat} {c : jC} (p : jP h0 h o) (hh : h1 = h ++ [c]) (hl : h.length = L) (ho : o ≤ L) : jP h0 h1 o := fun j hj => by
  rw [hh, List.getElem?_append_left (by omega)]
  exact p j hj
theorem jP.st {h0 h h1 : jH} {o i : Nat} {c : jC} (p : jP h0 h o) (hh : h1 = h.set i c) (ho : o ≤ i) : jP h0 h1 o := fun j hj => by
  rw [hh, List.getElem?_set_ne (by omega)]
  exact p j hj
theorem jP.tr {h0 h h1 : jH} {o o2 : Nat} (p : jP h0 h o) (q : jP h h1 o2) (ho : o ≤ o2) : jP h0 h1 o := fun j hj => (q j (by omega)).trans (p j hj)
theorem jP.at {h h1 : jH} {o j : Nat} {c : jC} (p : jP h h1 o) (f : h[j]? = some c) (hj : j < o) : h1[j]? = some c := (p j hj).trans f
abbrev z0 : Nat → Nat := fun _ => 0
abbrev HC0 (h : jH) (o : Nat) : Prop := HC h o (fun _ => 0) z0 z0 z0 z0 z0 z0
theorem HC0.p {h h1 : jH} {o o2 : Nat} (p : jP h h1 o2) (hC : HC0 h o) (ho : o + 7 ≤ o2) : HC0 h1 o := by
  obtain ⟨a0, a1, a2, a3, a4, a5, a6⟩ := hC
  exact ⟨p.at a0 (by omega), p.at a1 (by omega), p.at a2 (by omega), p.at a3 (by omega), p.at a4 (by omega), p.at a5 (by omega), p.at a6 (by omega)⟩
theorem HC0.ap {h h1 : jH} {o : Nat} {c : jC} (hh : h1 = h ++ [c]) (hC : HC0 h o) : HC0 h1 o := by
  obtain ⟨a0, a1, a2, a3, a4, a5, a6⟩ := hC
  exact ⟨jap hh a0, jap hh a1, jap hh a2, jap hh a3, jap hh a4, jap hh a5, jap hh a6⟩
theorem HC0.x {h : jH} {o : Nat} (hC : HC0 h o) : HX h o := ⟨_, _, _, _, _, _, _, _, _, _, _, hC⟩
theorem HC0.a {h : jH} {o : Nat} (hC : HC0 h o) : HA h o (fun _ => 0) := ⟨_, _, _, _, _, _, hC, fun _ hi => absurd hi (Nat.not_lt_zero _), fun _ hi => absurd hi (Nat.not_lt_zero _)⟩
def S0 : jS := ((0, fun _ => 3, fun _ => 0, fun _ _ => 0), (0, fun _ => 0, 0), fun _ => 0, (0, fun _ _ => 0), fun _ _ => 0, (0, fun _ => 0))
theorem S0_ok : SG S0 := by
  have z : g_ok (fun _ => 0) ∧ (0 : Nat) ≤ 9999 ∧ (0 < 0 ↔ 0 < 0) := ⟨⟨Nat.zero_le _, Nat.zero_le _, Nat.zero_le _, Nat.zero_le _, fun _ hi => absurd hi (Nat.not_lt_zero _), fun _ hi => absurd hi (Nat.not_lt_zero _)⟩, by omega, Iff.rfl⟩
  exact ⟨Nat.zero_le _, fun _ _ => ⟨Nat.le_refl _, Nat.zero_le _⟩, ⟨Nat.zero_le _, fun _ hi => absurd hi (Nat.not_lt_zero _), Nat.zero_le _⟩, z, ⟨Nat.zero_le _, fun _ hi => absurd hi (Nat.not_lt_zero _)⟩, fun _ _ => z, Nat.zero_le _, fun _ hi => absurd hi (Nat.not_lt_zero _)⟩
