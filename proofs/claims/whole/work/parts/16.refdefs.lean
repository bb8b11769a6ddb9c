/-! the reference: its object is cell 218, its arrays 219 .. 234 -/
abbrev RO (h : jH) (s : Nat → Int32) : Prop := h[218]? = some (jO 7 [.ref 219, .ref 220, .ref 221, .ref 222, .int (s 0), .ref 223, .int (s 1), .int (s 2), .int (s 3), .int (s 4), .int (s 5), .int (s 6), .int (s 7), .ref 224, .ref 225, .ref 226, .ref 227, .int (s 8), .ref 228, .ref 229, .ref 230, .ref 231, .ref 232, .ref 233, .ref 234, .int (s 9)])
theorem jb_iff {P Q : Prop} [Decidable P] [Decidable Q] (h : P ↔ Q) : jb P = jb Q := by
  unfold jb
  by_cases c : P
  · rw [if_pos c, if_pos (h.mp c)]
  · rw [if_neg c, if_neg (fun q => c (h.mpr q))]
theorem jRt_b {P Q : Prop} [Decidable P] [Decidable Q] {h : jH} (e : P ↔ Q) : jRt (.int (jb Q)) h (some (.int (jb P))) h := ⟨by rw [jb_iff e], rfl⟩
/-- only what lies within an array counts -/
theorem arrV_congr {cA : ClassId} {n : Nat} {f g : Nat → Value} (h : ∀ k, k < n → f k = g k) : arrV cA n f = arrV cA n g := by
  unfold arrV
  congr 2
  funext j
  exact h j.val j.isLt
theorem jRep_norm {g : jG} {h : jH} {H : Heap} {a n : Nat} {f f' : Nat → Int32} (hR : jRep g h H) (hc : h[a]? = some (jI n f)) (hf : ∀ k, k < n → f k = f' k) : jRep g (h.set a (jI n f')) H := by
  refine jRep_set hR hc ?_ (fun q _ => rfl)
  have h1 : H[jad g a]? = some (vp_cell g.2.2.2.1 (n, .inl f)) := hR.2 a _ (jws_at hc)
  show H[jad g a]? = some (vp_cell g.2.2.2.1 (n, .inl f'))
  rw [h1, vp_cell_i, vp_cell_i]
  congr 1
  exact arrV_congr (fun k hk => by rw [hf k hk])
theorem e_norm {cc : ByteArray} {own : String} {d : Nat} {X : jX} {b : jB} {pc : Nat} {ls : List (Option Value)} {st : List Value} {h : jH} {a n : Nat} {f : Nat → Nat} (f' : Nat → Nat) (hc : h[a]? = some (jN n f)) (hf : ∀ k, k < n → f k = f' k) (k : jV cc own d X b pc ls st (h.set a (jN n f'))) : jV cc own d X b pc ls st h := by
  obtain ⟨l, g, p, e, R, s, m, args, below, meth, c, Q⟩ := X
  intro ok H locs a0 k' n' h1 h2 hR hz hS hL
  exact k ok H locs a0 k' n' h1 h2 (jRep_norm hR hc (fun k hk => by rw [hf k hk])) (fun z => by rw [hz z]; simp) hS hL
def s_bits (s : Nat) : Nat → Nat
  | 0 => 0
  | n + 1 => s_bits s n + s / 2 ^ n % 2
theorem s_bits_le (s : Nat) : ∀ n, s_bits s n ≤ n
  | 0 => Nat.le_refl _
  | n + 1 => by
    have := s_bits_le s n
    unfold s_bits
    omega
theorem s_mid_succ (w : hw) (i : Nat) : va_up (s_mid w i) (13 + 4 * i + 1) (s_keep w i) = s_mid w (i + 1) := by
  funext k
  unfold va_up s_mid
  by_cases c : k = 13 + 4 * i + 1
  · rw [if_pos c, if_pos ⟨by omega, by omega, by omega⟩, c]
    congr 1
    omega
  · rw [if_neg c]
    by_cases c2 : 13 ≤ k ∧ k < 13 + 4 * i ∧ k % 4 = 2
    · rw [if_pos c2, if_pos ⟨by omega, by omega, by omega⟩]
    · rw [if_neg c2, if_neg (by omega)]
def s_bn (w : hw) (i : Nat) : hw := fun k => if 5 ≤ k ∧ k < 5 + i then s_burn w (k - 5) else s_mid w (w 3) k
theorem s_bn_0 (w : hw) : s_bn w 0 = s_mid w (w 3) := by
  funext k
  unfold s_bn
  rw [if_neg (by omega)]
theorem s_bn_succ (w : hw) (i : Nat) : va_up (s_bn w i) (5 + i) (s_burn w i) = s_bn w (i + 1) := by
  funext k
  unfold va_up s_bn
  by_cases c : k = 5 + i
  · rw [if_pos c, if_pos ⟨by omega, by omega⟩, c, Nat.add_sub_cancel_left]
  · rw [if_neg c]
    by_cases c2 : 5 ≤ k ∧ k < 5 + i
    · rw [if_pos c2, if_pos ⟨by omega, by omega⟩]
    · rw [if_neg c2, if_neg (by omega)]
theorem s_bn_lo (w : hw) (i : Nat) {k : Nat} (hk : k < 5) : s_bn w i k = w k := by
  unfold s_bn
  rw [if_neg (by omega), s_mid_lo w _ (by omega)]
theorem s_bn_pass {w : hw} (h2 : w 2 ≤ 8) : va_up (s_bn w (w 2)) 4 (w 4 + 1) = s_pass w := by
  funext k
  unfold va_up s_bn s_pass s_mid
  by_cases c : k = 4
  · rw [if_pos c]
  · rw [if_neg c]
theorem s_brn_w (w : hw) (i : Nat) : s_brn (w 1) (w 2) (fun j => w (5 + j)) (fun j => s_blown w j (w 3)) i = s_burn w i := rfl
