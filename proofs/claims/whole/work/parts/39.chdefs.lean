/-! chance, summers by draws -/
section JLR
variable {cc : ByteArray} {own : String} {d : Nat} {X : jX} {b : jB} {pc : Nat} {ls : List (Option Value)} {st : List Value} {h : jH}
theorem e_topL {x y : Int64} (e : x = y) (k : jV cc own d X b pc ls (.long y :: st) h) : jV cc own d X b pc ls (.long x :: st) h := by rw [e]; exact k
theorem e_i2lN {n : Nat} (hd : decode cc pc = .ok (.i2l, 1)) (hn : n < 2 ^ 31) (k : jV cc own d X b (pc + 1) ls (.long (lN n) :: st) h) : jV cc own d X b pc ls (.int (nI n) :: st) h := e_i2l hd (by rw [nI_l hn]; exact k)
theorem e_l2iN {n : Nat} (hd : decode cc pc = .ok (.l2i, 1)) (k : jV cc own d X b (pc + 1) ls (.int (nI n) :: st) h) : jV cc own d X b pc ls (.long (lN n) :: st) h := e_l2i hd (by rw [lN_i]; exact k)
theorem e_lmulN {x y : Nat} (hd : decode cc pc = .ok (.lmul, 1)) (k : jV cc own d X b (pc + 1) ls (.long (lN (x * y)) :: st) h) : jV cc own d X b pc ls (.long (lN y) :: .long (lN x) :: st) h := e_lmul hd (by rw [lN_mul]; exact k)
theorem e_lremN {x y : Nat} (hd : decode cc pc = .ok (.lrem, 1)) (hx : x < 2 ^ 63) (h0 : 0 < y) (hy : y < 2 ^ 31) (k : jV cc own d X b (pc + 1) ls (.long (lN (x % y)) :: st) h) : jV cc own d X b pc ls (.long (lN y) :: .long (lN x) :: st) h := e_lrem hd (fun z => by
  have := (lN_eq (b := 0) hy (by decide)).mp z
  omega) (by rw [pk_lRem hx h0 (by omega)]; exact k)
end JLR
theorem lc0 {x : Nat} (hx : x < 2 ^ 31) : lg_cmp (lN x) 0 = 0 ↔ x = 0 := by
  unfold lg_cmp
  have e : lN x = 0 ↔ x = 0 := lN_eq (b := 0) hx (by decide)
  have e2 : lN x > 0 ↔ 0 < x := lN_lt (a := 0) (by decide) hx
  by_cases c : x = 0
  · rw [if_neg (fun z => by have := e2.mp z; omega), if_pos (e.mpr c)]
    exact ⟨fun _ => c, fun _ => rfl⟩
  · rw [if_pos (e2.mpr (by omega))]
    exact ⟨fun z => absurd z (by decide), fun z => absurd z c⟩
/-- the house when the days of q are warm and the rest cold -/
def s_cw (q d : Nat) : Nat := if q / 2 ^ d % 2 = 1 then 15 else 0
def s_ch (q : Nat) : Nat → hw → hw
  | 0, w => w
  | d + 1, w => s_pass (va_up (s_ch q d w) 0 (s_cw q d))
theorem s_cw_le (q d : Nat) : s_cw q d ≤ 15 := by unfold s_cw; split <;> omega
theorem s_ch_ok {q : Nat} : ∀ (d : Nat) {w : hw}, g_ok w → g_ok (s_ch q d w)
  | 0, _, h => h
  | d + 1, _, h => s_pass_ok ((s_ch_ok d h).warm (s_cw_le q d))
theorem s_ch_4 {q : Nat} : ∀ (d : Nat) {w : hw}, s_ch q d w 4 = w 4 + d
  | 0, _ => rfl
  | d + 1, w => by
    show s_pass (va_up (s_ch q d w) 0 (s_cw q d)) 4 = _
    rw [s_pass_4, up_ne (by omega), s_ch_4 d]
    omega
theorem s_ch_lo {q : Nat} : ∀ (d : Nat) {w : hw} {k : Nat}, k < 4 → 0 < k → s_ch q d w k = w k
  | 0, _, _, _, _ => rfl
  | d + 1, w, k, hk, h0 => by
    show s_pass (va_up (s_ch q d w) 0 (s_cw q d)) k = _
    rw [← s_ch_lo (q := q) d (w := w) hk h0]
    rcases (show k = 1 ∨ k = 2 ∨ k = 3 by omega) with rfl | rfl | rfl
    · rw [s_pass_1, up_ne (by omega)]
    · rw [s_pass_2, up_ne (by omega)]
    · rw [s_pass_3, up_ne (by omega)]
def s_wy (q c : Nat) : Nat → Nat
  | 0 => 1
  | d + 1 => s_wy q c d * (if q / 2 ^ d % 2 = 1 then c else 10 - c)
theorem s_wy_eq (q c : Nat) : ∀ d, s_wy q c d = c ^ s_bits q d * (10 - c) ^ (d - s_bits q d)
  | 0 => by rw [s_wy, s_bits, Nat.pow_zero, Nat.one_mul, Nat.pow_zero]
  | d + 1 => by
    have l := s_bits_le q d
    unfold s_wy s_bits
    rw [s_wy_eq q c d]
    by_cases z : q / 2 ^ d % 2 = 1
    · rw [if_pos z, z, show d + 1 - (s_bits q d + 1) = d - s_bits q d by omega, Nat.pow_succ, Nat.mul_right_comm]
    · rw [if_neg z, show q / 2 ^ d % 2 = 0 by omega, Nat.add_zero, show d + 1 - s_bits q d = (d - s_bits q d) + 1 by omega, Nat.pow_succ, Nat.mul_assoc]
theorem s_bits_n8 : ∀ {n : Nat}, n ≤ 8 → ∀ {q : Nat}, q < 2 ^ n → s_bits q 8 = s_bits q n := by decide +kernel
theorem s_wy_cl {q c n : Nat} (hn : n ≤ 8) (hq : q < 2 ^ n) : c ^ s_bits q 8 * (10 - c) ^ (n - s_bits q 8) = s_wy q c n := by rw [s_wy_eq, s_bits_n8 hn hq]
def s_sw (c n : Nat) : Nat → Nat
  | 0 => 0
  | q + 1 => s_sw c n q + s_wy q c n
theorem s_sw_all : ∀ {c : Nat}, c ≤ 10 → ∀ {n : Nat}, n ≤ 8 → s_sw c n (2 ^ n) = 10 ^ n := by decide +kernel
def s_ab (w : hw) (p n c : Nat) : Nat → Nat
  | 0 => 0
  | q + 1 => s_ab w p n c q + (if 0 < s_ch q n w (13 + 4 * p + 1) then s_wy q c n else 0)
theorem s_ab_le {w : hw} {p n c : Nat} : ∀ q, s_ab w p n c q ≤ s_sw c n q
  | 0 => Nat.le_refl _
  | q + 1 => by
    have := s_ab_le (w := w) (p := p) (n := n) (c := c) q
    unfold s_ab s_sw
    split <;> omega
theorem n_p10 : ∀ {n : Nat}, n ≤ 8 → 10 ^ n ≤ 100000000 ∧ 0 < 10 ^ n := by decide +kernel
def s_chA (w : hw) (p n c v : Nat) : Int32 := nI ((if v = 0 then s_ab w p n c (2 ^ n) else 10 ^ n) / Nat.gcd (s_ab w p n c (2 ^ n)) (10 ^ n))
def sp_chance (x n c v : Int32) (S : jS) : Int32 := if iN x (S.2.2.1 3) then if iR n 0 8 then if iR c 0 10 then if iR v 0 1 then s_chA S.2.2.1 x.toNatClampNeg n.toNatClampNeg c.toNatClampNeg v.toNatClampNeg else -1000001 else -1000001 else -1000001 else -1000001
/-- a summer by draws -/
def s_x (x : Nat) : Nat := x * 16807 % 2147483647
def s_dst (x : Nat) (u : hw) : hw := if x % 3 = 0 ∧ 0 < u 3 then va_up (va_up u 0 (x % 16)) (13 + 4 * (x % u 3) + 3) (1 - va_up u 0 (x % 16) (13 + 4 * (x % u 3) + 3)) else va_up u 0 (x % 16)
def s_ds : Nat → Nat → hw → hw
  | 0, _, u => u
  | n + 1, x, u => s_ds n (s_x x) (s_pass (s_dst (s_x x) u))
theorem s_dst_ok {x : Nat} {u : hw} (ok : g_ok u) : g_ok (s_dst x u) := by
  have o2 := ok.warm (v := x % 16) (by omega)
  unfold s_dst
  split
  · exact o2.peg (by omega)
  · exact o2
theorem s_dst_lo {x k : Nat} {u : hw} (h0 : 0 < k) (hk : k < 5) : s_dst x u k = u k := by
  unfold s_dst
  split
  · rw [up_ne (by omega), up_ne (by omega)]
  · rw [up_ne (by omega)]
def s_drwA (w : hw) (n x v : Nat) : Int32 := if v = 0 then nI (s_fires (s_ds n x w) (w 2)) else nI (s_breaths (s_ds n x w) (w 3))
theorem s_ds_lo : ∀ (n x : Nat) {u : hw} {k : Nat}, 0 < k → k < 4 → s_ds n x u k = u k
  | 0, _, _, _, _, _ => rfl
  | n + 1, x, u, k, h0, hk => by
    show s_ds n (s_x x) (s_pass (s_dst (s_x x) u)) k = _
    rw [s_ds_lo n (s_x x) h0 hk, ← s_dst_lo (x := s_x x) (u := u) h0 (show k < 5 by omega)]
    rcases (show k = 1 ∨ k = 2 ∨ k = 3 by omega) with rfl | rfl | rfl <;> rfl
theorem s_ds_ok : ∀ (n x : Nat) {u : hw}, g_ok u → g_ok (s_ds n x u)
  | 0, _, _, h => h
  | n + 1, x, _, h => s_ds_ok n (s_x x) (s_pass_ok (s_dst_ok h))
def sp_drawn (n x v : Int32) (S : jS) : Int32 := if 0 < S.2.2.1 2 then if iR n 0 60 then if iR x 1 999999 then if iR v 0 1 then s_drwA S.2.2.1 n.toNatClampNeg x.toNatClampNeg v.toNatClampNeg else -1000001 else -1000001 else -1000001 else -1000002
