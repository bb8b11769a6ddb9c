/-! rows of the judgement over numbers from 0 on (nI n), and truth values (jb) -/
abbrev jN (n : Nat) (f : Nat → Nat) : jC := jI n (fun k => nI (f k))
def jb (c : Prop) [Decidable c] : Int32 := if c then 1 else 0
theorem jb_t {c : Prop} [Decidable c] (h : c) : jb c = 1 := if_pos h
theorem jb_f {c : Prop} [Decidable c] (h : ¬ c) : jb c = 0 := if_neg h
theorem jb_0 {c : Prop} [Decidable c] : jb c = 0 ↔ ¬ c := by
  unfold jb
  by_cases h : c
  · rw [if_pos h]; exact ⟨fun z => absurd z (by decide), fun z => absurd h z⟩
  · rw [if_neg h]; exact ⟨fun _ => h, fun _ => rfl⟩
theorem jb_1 {c : Prop} [Decidable c] : jb c = 1 ↔ c := by
  unfold jb
  by_cases h : c
  · rw [if_pos h]; exact ⟨fun _ => h, fun _ => rfl⟩
  · rw [if_neg h]; exact ⟨fun z => absurd z (by decide), fun z => absurd z h⟩
theorem jb_nar {c : Prop} [Decidable c] : narrow .boolean (.int (jb c)) = .int (jb c) := by
  unfold jb
  by_cases h : c
  · rw [if_pos h]; rfl
  · rw [if_neg h]; rfl
theorem nsh {s : Nat} (h : s < 32) : nI s &&& 31 = nI s := by
  have := fa_mask s 5
  rw [show (2 ^ 5 - 1 : Nat) = 31 from rfl] at this
  rw [show (31 : Int32) = nI 31 from rfl, this]
  congr 1
  exact Nat.mod_eq_of_lt (by omega)
theorem nsm : ∀ s, s < 32 → ((nI s).toBitVec.smod 32).toNat = s := by decide +kernel
theorem n_shr {a s : Nat} (ha : a < 2 ^ 31) (hs : s < 32) : nI a >>> (nI s &&& 31) = nI (a / 2 ^ s) := by
  rw [nsh hs]
  exact pk_shrN ha _ s (nsm s hs)
theorem n_shl {a s : Nat} (hs : s < 32) (h : a * 2 ^ s < 2 ^ 32) : nI a <<< (nI s &&& 31) = nI (a * 2 ^ s) := by
  rw [nsh hs]
  exact pk_shlN _ s (nsm s hs) h
theorem n_eq {a b : Nat} (ha : a < 2 ^ 31) (hb : b < 2 ^ 31) : nI a = nI b ↔ a = b := nI_eq ha hb
theorem n_neg {a : Nat} (h : a < 2 ^ 31) : ¬ nI a < 0 := nI_pos h
/-- every int is a number's -/
theorem n_any (x : Int32) : x = nI x.toBitVec.toNat := by
  apply Int32.toBitVec_inj.1
  show x.toBitVec = BitVec.ofNat 32 x.toBitVec.toNat
  simp
theorem n_add_neg {a b : Nat} (h : b ≤ a) : nI a + -(nI b) = nI (a - b) := by
  rw [← Int32.sub_eq_add_neg]
  exact pk_sub h
theorem n_upd (f : Nat → Nat) (k x : Nat) : upd (fun j => nI (f j)) k (nI x) = fun j => nI (va_up f k x j) := by
  funext j
  unfold upd va_up
  by_cases h : j = k
  · rw [if_pos h, if_pos h]
  · rw [if_neg h, if_neg h]
section JNR
variable {cc : ByteArray} {own : String} {d : Nat} {X : jX} {b : jB} {pc : Nat} {ls : List (Option Value)} {st : List Value} {h : jH}
theorem e_ialdN {o n : Nat} {f : Nat → Nat} {i : Nat} (hd : decode cc pc = .ok (.iaload, 1)) (hc : h[o]? = some (jN n f)) (hi : i < n) (hn : n < 2 ^ 31) (k : jV cc own d X b (pc + 1) ls (.int (nI (f i)) :: st) h) : jV cc own d X b pc ls (.int (nI i) :: .ref o :: st) h := by
  refine e_iald hd hc (vp_in_nI hi hn) ?_
  rw [nI_clamp (by omega)]
  exact k
/-- an array of any ints, read at a number -/
theorem e_ialdI {o n : Nat} {f : Nat → Int32} {i : Nat} (hd : decode cc pc = .ok (.iaload, 1)) (hc : h[o]? = some (jI n f)) (hi : i < n) (hn : n < 2 ^ 31) (k : jV cc own d X b (pc + 1) ls (.int (f i) :: st) h) : jV cc own d X b pc ls (.int (nI i) :: .ref o :: st) h := by
  refine e_iald hd hc (vp_in_nI hi hn) ?_
  rw [nI_clamp (by omega)]
  exact k
theorem e_saldN (j : Nat) {q : String × String × Nat × List Int32} {i : Nat} (hd : decode cc pc = .ok (.iaload, 1)) (hq : jtabs[j]? = some q) (hi : i < q.2.2.1) (hn : q.2.2.1 < 2 ^ 31) (k : jV cc own d X b (pc + 1) ls (.int (q.2.2.2.getD i 0) :: st) h) : jV cc own d X b pc ls (.int (nI i) :: .ref (1000 + j) :: st) h := by
  refine e_sald j hd hq (vp_in_nI hi hn) ?_
  rw [nI_clamp (by omega)]
  exact k
theorem e_iastN {o n : Nat} {f : Nat → Nat} {i x : Nat} (hd : decode cc pc = .ok (.iastore, 1)) (hc : h[o]? = some (jN n f)) (hi : i < n) (hn : n < 2 ^ 31) (k : jV cc own d X b (pc + 1) ls st (h.set o (jN n (va_up f i x)))) : jV cc own d X b pc ls (.int (nI x) :: .int (nI i) :: .ref o :: st) h := by
  refine e_iast hd hc (vp_in_nI hi hn) ?_
  rw [nI_clamp (by omega), n_upd]
  exact k
theorem e_iastI {o n : Nat} {f : Nat → Int32} {i : Nat} {x : Int32} (hd : decode cc pc = .ok (.iastore, 1)) (hc : h[o]? = some (jI n f)) (hi : i < n) (hn : n < 2 ^ 31) (k : jV cc own d X b (pc + 1) ls st (h.set o (jI n (upd f i x)))) : jV cc own d X b pc ls (.int x :: .int (nI i) :: .ref o :: st) h := by
  refine e_iast hd hc (vp_in_nI hi hn) ?_
  rw [nI_clamp (by omega)]
  exact k
theorem e_aaldN {o n q : Nat} {f : Nat → Option Nat} {i : Nat} (hd : decode cc pc = .ok (.aaload, 1)) (hc : h[o]? = some (jR n f)) (hi : i < n) (hn : n < 2 ^ 31) (hq : f i = some q) (k : jV cc own d X b (pc + 1) ls (.ref q :: st) h) : jV cc own d X b pc ls (.int (nI i) :: .ref o :: st) h := e_aald hd hc (vp_in_nI hi hn) (by rw [nI_clamp (by omega)]; exact hq) k
theorem e_iaddN {x y : Nat} (hd : decode cc pc = .ok (.iadd, 1)) (k : jV cc own d X b (pc + 1) ls (.int (nI (x + y)) :: st) h) : jV cc own d X b pc ls (.int (nI y) :: .int (nI x) :: st) h := by
  refine e_iadd hd ?_
  rw [nI_add]
  exact k
theorem e_isubN {x y : Nat} (hd : decode cc pc = .ok (.isub, 1)) (hxy : y ≤ x) (k : jV cc own d X b (pc + 1) ls (.int (nI (x - y)) :: st) h) : jV cc own d X b pc ls (.int (nI y) :: .int (nI x) :: st) h := by
  refine e_isub hd ?_
  rw [pk_sub hxy]
  exact k
theorem e_imulN {x y : Nat} (hd : decode cc pc = .ok (.imul, 1)) (k : jV cc own d X b (pc + 1) ls (.int (nI (x * y)) :: st) h) : jV cc own d X b pc ls (.int (nI y) :: .int (nI x) :: st) h := by
  refine e_imul hd ?_
  rw [pk_mul]
  exact k
theorem e_idivN {x y : Nat} (hd : decode cc pc = .ok (.idiv, 1)) (hx : x < 2 ^ 31) (h0 : 0 < y) (hy : y < 2 ^ 31) (k : jV cc own d X b (pc + 1) ls (.int (nI (x / y)) :: st) h) : jV cc own d X b pc ls (.int (nI y) :: .int (nI x) :: st) h := by
  refine e_idiv hd (nI_ne0 h0 hy) ?_
  rw [pk_div hx h0 hy]
  exact k
theorem e_iremN {x y : Nat} (hd : decode cc pc = .ok (.irem, 1)) (hx : x < 2 ^ 31) (h0 : 0 < y) (hy : y < 2 ^ 31) (k : jV cc own d X b (pc + 1) ls (.int (nI (x % y)) :: st) h) : jV cc own d X b pc ls (.int (nI y) :: .int (nI x) :: st) h := by
  refine e_irem hd (nI_ne0 h0 hy) ?_
  rw [pk_rem hx h0 hy]
  exact k
theorem e_iandN {x y : Nat} (hd : decode cc pc = .ok (.iand, 1)) (k : jV cc own d X b (pc + 1) ls (.int (nI (x &&& y)) :: st) h) : jV cc own d X b pc ls (.int (nI y) :: .int (nI x) :: st) h := by
  refine e_iand hd ?_
  rw [fa_and]
  exact k
theorem e_iorN {x y : Nat} (hd : decode cc pc = .ok (.ior, 1)) (k : jV cc own d X b (pc + 1) ls (.int (nI (x ||| y)) :: st) h) : jV cc own d X b pc ls (.int (nI y) :: .int (nI x) :: st) h := by
  refine e_ior hd ?_
  rw [fa_or]
  exact k
theorem e_ishrN {x y : Nat} (hd : decode cc pc = .ok (.ishr, 1)) (hx : x < 2 ^ 31) (hy : y < 32) (k : jV cc own d X b (pc + 1) ls (.int (nI (x / 2 ^ y)) :: st) h) : jV cc own d X b pc ls (.int (nI y) :: .int (nI x) :: st) h := by
  refine e_ishr hd ?_
  rw [n_shr hx hy]
  exact k
theorem e_ishlN {x y : Nat} (hd : decode cc pc = .ok (.ishl, 1)) (hy : y < 32) (hx : x * 2 ^ y < 2 ^ 32) (k : jV cc own d X b (pc + 1) ls (.int (nI (x * 2 ^ y)) :: st) h) : jV cc own d X b pc ls (.int (nI y) :: .int (nI x) :: st) h := by
  refine e_ishl hd ?_
  rw [n_shl hy hx]
  exact k
theorem e_if_eqB {c : Prop} [Decidable c] {off : Int} (tgt : Nat) (hd : decode cc pc = .ok (.ifCond .eq off, 3)) (ht : (pc : Int) + off = (tgt : Int)) (kt : ¬ c → jV cc own d X b tgt ls st h) (kf : c → jV cc own d X b (pc + 3) ls st h) : jV cc own d X b pc ls (.int (jb c) :: st) h := e_if_eq tgt hd ht (fun z => kt (jb_0.mp z)) (fun z => kf (Classical.not_not.mp (fun q => z (jb_0.mpr q))))
theorem e_if_neB {c : Prop} [Decidable c] {off : Int} (tgt : Nat) (hd : decode cc pc = .ok (.ifCond .ne off, 3)) (ht : (pc : Int) + off = (tgt : Int)) (kt : c → jV cc own d X b tgt ls st h) (kf : ¬ c → jV cc own d X b (pc + 3) ls st h) : jV cc own d X b pc ls (.int (jb c) :: st) h := e_if_ne tgt hd ht (fun z => kt (Classical.not_not.mp (fun q => z (jb_0.mpr q)))) (fun z => kf (jb_0.mp z))
theorem e_if_eqN {x : Nat} {off : Int} (tgt : Nat) (hd : decode cc pc = .ok (.ifCond .eq off, 3)) (ht : (pc : Int) + off = (tgt : Int)) (hx : x < 2 ^ 31) (kt : x = 0 → jV cc own d X b tgt ls st h) (kf : 0 < x → jV cc own d X b (pc + 3) ls st h) : jV cc own d X b pc ls (.int (nI x) :: st) h := e_if_eq tgt hd ht (fun z => kt ((nI_eq hx (by decide)).mp z)) (fun z => kf (Nat.pos_of_ne_zero (fun q => z ((nI_eq hx (by decide)).mpr q))))
theorem e_if_neN {x : Nat} {off : Int} (tgt : Nat) (hd : decode cc pc = .ok (.ifCond .ne off, 3)) (ht : (pc : Int) + off = (tgt : Int)) (hx : x < 2 ^ 31) (kt : 0 < x → jV cc own d X b tgt ls st h) (kf : x = 0 → jV cc own d X b (pc + 3) ls st h) : jV cc own d X b pc ls (.int (nI x) :: st) h := e_if_ne tgt hd ht (fun z => kt (Nat.pos_of_ne_zero (fun q => z ((nI_eq hx (by decide)).mpr q)))) (fun z => kf ((nI_eq hx (by decide)).mp z))
theorem e_if_leN {x : Nat} {off : Int} (tgt : Nat) (hd : decode cc pc = .ok (.ifCond .le off, 3)) (ht : (pc : Int) + off = (tgt : Int)) (hx : x < 2 ^ 31) (kt : x = 0 → jV cc own d X b tgt ls st h) (kf : 0 < x → jV cc own d X b (pc + 3) ls st h) : jV cc own d X b pc ls (.int (nI x) :: st) h := e_if_le tgt hd ht (fun z => kt (by have := (nI_leI hx (b := 0) (by decide)).mp z; omega)) (fun z => kf (Nat.pos_of_ne_zero (fun q => z ((nI_leI hx (b := 0) (by decide)).mpr (by omega)))))
theorem e_if_geN {x : Nat} {off : Int} (tgt : Nat) (hd : decode cc pc = .ok (.ifCond .ge off, 3)) (ht : (pc : Int) + off = (tgt : Int)) (hx : x < 2 ^ 31) (kt : jV cc own d X b tgt ls st h) : jV cc own d X b pc ls (.int (nI x) :: st) h := e_if_ge tgt hd ht (fun _ => kt) (fun z => absurd (nI_pos' hx) z)
theorem e_if_ltN {x : Nat} {off : Int} (tgt : Nat) (hd : decode cc pc = .ok (.ifCond .lt off, 3)) (ht : (pc : Int) + off = (tgt : Int)) (hx : x < 2 ^ 31) (kf : jV cc own d X b (pc + 3) ls st h) : jV cc own d X b pc ls (.int (nI x) :: st) h := e_if_lt tgt hd ht (fun z => absurd z (nI_pos hx)) (fun _ => kf)
theorem e_if_gtN {x : Nat} {off : Int} (tgt : Nat) (hd : decode cc pc = .ok (.ifCond .gt off, 3)) (ht : (pc : Int) + off = (tgt : Int)) (hx : x < 2 ^ 31) (kt : 0 < x → jV cc own d X b tgt ls st h) (kf : x = 0 → jV cc own d X b (pc + 3) ls st h) : jV cc own d X b pc ls (.int (nI x) :: st) h := e_if_gt tgt hd ht (fun z => kt (by have := (nI_ltI (a := 0) (by decide) hx).mp z; omega)) (fun z => kf (Nat.eq_zero_of_not_pos (fun q => z ((nI_ltI (a := 0) (by decide) hx).mpr q))))
theorem e_ic_eqN {x y : Nat} {off : Int} (tgt : Nat) (hd : decode cc pc = .ok (.if_icmp .eq off, 3)) (ht : (pc : Int) + off = (tgt : Int)) (hx : x < 2 ^ 31) (hy : y < 2 ^ 31) (kt : x = y → jV cc own d X b tgt ls st h) (kf : x ≠ y → jV cc own d X b (pc + 3) ls st h) : jV cc own d X b pc ls (.int (nI y) :: .int (nI x) :: st) h := e_ic_eq tgt hd ht (fun z => kt ((nI_eq hx hy).mp z)) (fun z => kf (fun q => z ((nI_eq hx hy).mpr q)))
theorem e_ic_neN {x y : Nat} {off : Int} (tgt : Nat) (hd : decode cc pc = .ok (.if_icmp .ne off, 3)) (ht : (pc : Int) + off = (tgt : Int)) (hx : x < 2 ^ 31) (hy : y < 2 ^ 31) (kt : x ≠ y → jV cc own d X b tgt ls st h) (kf : x = y → jV cc own d X b (pc + 3) ls st h) : jV cc own d X b pc ls (.int (nI y) :: .int (nI x) :: st) h := e_ic_ne tgt hd ht (fun z => kt (fun q => z ((nI_eq hx hy).mpr q))) (fun z => kf ((nI_eq hx hy).mp z))
theorem e_ic_ltN {x y : Nat} {off : Int} (tgt : Nat) (hd : decode cc pc = .ok (.if_icmp .lt off, 3)) (ht : (pc : Int) + off = (tgt : Int)) (hx : x < 2 ^ 31) (hy : y < 2 ^ 31) (kt : x < y → jV cc own d X b tgt ls st h) (kf : y ≤ x → jV cc own d X b (pc + 3) ls st h) : jV cc own d X b pc ls (.int (nI y) :: .int (nI x) :: st) h := e_ic_lt tgt hd ht (fun z => kt ((nI_ltI hx hy).mp z)) (fun z => kf (Nat.not_lt.mp (fun q => z ((nI_ltI hx hy).mpr q))))
theorem e_ic_geN {x y : Nat} {off : Int} (tgt : Nat) (hd : decode cc pc = .ok (.if_icmp .ge off, 3)) (ht : (pc : Int) + off = (tgt : Int)) (hx : x < 2 ^ 31) (hy : y < 2 ^ 31) (kt : y ≤ x → jV cc own d X b tgt ls st h) (kf : x < y → jV cc own d X b (pc + 3) ls st h) : jV cc own d X b pc ls (.int (nI y) :: .int (nI x) :: st) h := e_ic_ge tgt hd ht (fun z => kt ((nI_leI hy hx).mp z)) (fun z => kf (Nat.not_le.mp (fun q => z ((nI_leI hy hx).mpr q))))
theorem e_ic_gtN {x y : Nat} {off : Int} (tgt : Nat) (hd : decode cc pc = .ok (.if_icmp .gt off, 3)) (ht : (pc : Int) + off = (tgt : Int)) (hx : x < 2 ^ 31) (hy : y < 2 ^ 31) (kt : y < x → jV cc own d X b tgt ls st h) (kf : x ≤ y → jV cc own d X b (pc + 3) ls st h) : jV cc own d X b pc ls (.int (nI y) :: .int (nI x) :: st) h := e_ic_gt tgt hd ht (fun z => kt ((nI_ltI hy hx).mp z)) (fun z => kf (Nat.not_lt.mp (fun q => z ((nI_ltI hy hx).mpr q))))
theorem e_ic_leN {x y : Nat} {off : Int} (tgt : Nat) (hd : decode cc pc = .ok (.if_icmp .le off, 3)) (ht : (pc : Int) + off = (tgt : Int)) (hx : x < 2 ^ 31) (hy : y < 2 ^ 31) (kt : x ≤ y → jV cc own d X b tgt ls st h) (kf : y < x → jV cc own d X b (pc + 3) ls st h) : jV cc own d X b pc ls (.int (nI y) :: .int (nI x) :: st) h := e_ic_le tgt hd ht (fun z => kt ((nI_leI hx hy).mp z)) (fun z => kf (Nat.not_le.mp (fun q => z ((nI_leI hx hy).mpr q))))
theorem e_top {x y : Int32} (e : x = y) (k : jV cc own d X b pc ls (.int y :: st) h) : jV cc own d X b pc ls (.int x :: st) h := by rw [e]; exact k
theorem e_heap {h' : jH} (e : h = h') (k : jV cc own d X b pc ls st h') : jV cc own d X b pc ls st h := by rw [e]; exact k
end JNR
section JNI
variable {cc : ByteArray} {own : String} {d : Nat} {X : jX} {b : jB} {pc : Nat} {r : List (Option Value)} {st : List Value} {h : jH}
theorem e_inc0N {x : Nat} (hd : decode cc pc = .ok (.iinc 0 1, 3)) (k : jV cc own d X b (pc + 3) (some (.int (nI (x + 1))) :: r) st h) : jV cc own d X b pc (some (.int (nI x)) :: r) st h := e_inc0 1 hd (by decide) (by rw [nI_1]; exact k)
theorem e_inc1N {l0 : Option Value} {x : Nat} (hd : decode cc pc = .ok (.iinc 1 1, 3)) (hn : jnl l0 = true) (k : jV cc own d X b (pc + 3) (l0 :: some (.int (nI (x + 1))) :: r) st h) : jV cc own d X b pc (l0 :: some (.int (nI x)) :: r) st h := e_inc1 1 hd (by decide) hn (by rw [nI_1]; exact k)
theorem e_inc2N {l0 l1 : Option Value} {x : Nat} (hd : decode cc pc = .ok (.iinc 2 1, 3)) (hn : jnl l1 = true) (k : jV cc own d X b (pc + 3) (l0 :: l1 :: some (.int (nI (x + 1))) :: r) st h) : jV cc own d X b pc (l0 :: l1 :: some (.int (nI x)) :: r) st h := e_inc2 1 hd (by decide) hn (by rw [nI_1]; exact k)
theorem e_inc3N {l0 l1 l2 : Option Value} {x : Nat} (hd : decode cc pc = .ok (.iinc 3 1, 3)) (hn : jnl l2 = true) (k : jV cc own d X b (pc + 3) (l0 :: l1 :: l2 :: some (.int (nI (x + 1))) :: r) st h) : jV cc own d X b pc (l0 :: l1 :: l2 :: some (.int (nI x)) :: r) st h := e_inc3 1 hd (by decide) hn (by rw [nI_1]; exact k)
theorem e_inc4N {l0 l1 l2 l3 : Option Value} {x : Nat} (hd : decode cc pc = .ok (.iinc 4 1, 3)) (hn : jnl l3 = true) (k : jV cc own d X b (pc + 3) (l0 :: l1 :: l2 :: l3 :: some (.int (nI (x + 1))) :: r) st h) : jV cc own d X b pc (l0 :: l1 :: l2 :: l3 :: some (.int (nI x)) :: r) st h := e_inc4 1 hd (by decide) hn (by rw [nI_1]; exact k)
theorem e_inc5N {l0 l1 l2 l3 l4 : Option Value} {x : Nat} (hd : decode cc pc = .ok (.iinc 5 1, 3)) (hn : jnl l4 = true) (k : jV cc own d X b (pc + 3) (l0 :: l1 :: l2 :: l3 :: l4 :: some (.int (nI (x + 1))) :: r) st h) : jV cc own d X b pc (l0 :: l1 :: l2 :: l3 :: l4 :: some (.int (nI x)) :: r) st h := e_inc5 1 hd (by decide) hn (by rw [nI_1]; exact k)
theorem e_inc6N {l0 l1 l2 l3 l4 l5 : Option Value} {x : Nat} (hd : decode cc pc = .ok (.iinc 6 1, 3)) (hn : jnl l5 = true) (k : jV cc own d X b (pc + 3) (l0 :: l1 :: l2 :: l3 :: l4 :: l5 :: some (.int (nI (x + 1))) :: r) st h) : jV cc own d X b pc (l0 :: l1 :: l2 :: l3 :: l4 :: l5 :: some (.int (nI x)) :: r) st h := e_inc6 1 hd (by decide) hn (by rw [nI_1]; exact k)
theorem e_inc7N {l0 l1 l2 l3 l4 l5 l6 : Option Value} {x : Nat} (hd : decode cc pc = .ok (.iinc 7 1, 3)) (hn : jnl l6 = true) (k : jV cc own d X b (pc + 3) (l0 :: l1 :: l2 :: l3 :: l4 :: l5 :: l6 :: some (.int (nI (x + 1))) :: r) st h) : jV cc own d X b pc (l0 :: l1 :: l2 :: l3 :: l4 :: l5 :: l6 :: some (.int (nI x)) :: r) st h := e_inc7 1 hd (by decide) hn (by rw [nI_1]; exact k)
theorem e_inc8N {l0 l1 l2 l3 l4 l5 l6 l7 : Option Value} {x : Nat} (hd : decode cc pc = .ok (.iinc 8 1, 3)) (hn : jnl l7 = true) (k : jV cc own d X b (pc + 3) (l0 :: l1 :: l2 :: l3 :: l4 :: l5 :: l6 :: l7 :: some (.int (nI (x + 1))) :: r) st h) : jV cc own d X b pc (l0 :: l1 :: l2 :: l3 :: l4 :: l5 :: l6 :: l7 :: some (.int (nI x)) :: r) st h := e_inc8 1 hd (by decide) hn (by rw [nI_1]; exact k)
theorem e_inc9N {l0 l1 l2 l3 l4 l5 l6 l7 l8 : Option Value} {x : Nat} (hd : decode cc pc = .ok (.iinc 9 1, 3)) (hn : jnl l8 = true) (k : jV cc own d X b (pc + 3) (l0 :: l1 :: l2 :: l3 :: l4 :: l5 :: l6 :: l7 :: l8 :: some (.int (nI (x + 1))) :: r) st h) : jV cc own d X b pc (l0 :: l1 :: l2 :: l3 :: l4 :: l5 :: l6 :: l7 :: l8 :: some (.int (nI x)) :: r) st h := e_inc9 1 hd (by decide) hn (by rw [nI_1]; exact k)
theorem e_inc10N {l0 l1 l2 l3 l4 l5 l6 l7 l8 l9 : Option Value} {x : Nat} (hd : decode cc pc = .ok (.iinc 10 1, 3)) (hn : jnl l9 = true) (k : jV cc own d X b (pc + 3) (l0 :: l1 :: l2 :: l3 :: l4 :: l5 :: l6 :: l7 :: l8 :: l9 :: some (.int (nI (x + 1))) :: r) st h) : jV cc own d X b pc (l0 :: l1 :: l2 :: l3 :: l4 :: l5 :: l6 :: l7 :: l8 :: l9 :: some (.int (nI x)) :: r) st h := e_inc10 1 hd (by decide) hn (by rw [nI_1]; exact k)
theorem e_inc11N {l0 l1 l2 l3 l4 l5 l6 l7 l8 l9 l10 : Option Value} {x : Nat} (hd : decode cc pc = .ok (.iinc 11 1, 3)) (hn : jnl l10 = true) (k : jV cc own d X b (pc + 3) (l0 :: l1 :: l2 :: l3 :: l4 :: l5 :: l6 :: l7 :: l8 :: l9 :: l10 :: some (.int (nI (x + 1))) :: r) st h) : jV cc own d X b pc (l0 :: l1 :: l2 :: l3 :: l4 :: l5 :: l6 :: l7 :: l8 :: l9 :: l10 :: some (.int (nI x)) :: r) st h := e_inc11 1 hd (by decide) hn (by rw [nI_1]; exact k)
theorem e_inc12N {l0 l1 l2 l3 l4 l5 l6 l7 l8 l9 l10 l11 : Option Value} {x : Nat} (hd : decode cc pc = .ok (.iinc 12 1, 3)) (hn : jnl l11 = true) (k : jV cc own d X b (pc + 3) (l0 :: l1 :: l2 :: l3 :: l4 :: l5 :: l6 :: l7 :: l8 :: l9 :: l10 :: l11 :: some (.int (nI (x + 1))) :: r) st h) : jV cc own d X b pc (l0 :: l1 :: l2 :: l3 :: l4 :: l5 :: l6 :: l7 :: l8 :: l9 :: l10 :: l11 :: some (.int (nI x)) :: r) st h := e_inc12 1 hd (by decide) hn (by rw [nI_1]; exact k)
theorem e_inc13N {l0 l1 l2 l3 l4 l5 l6 l7 l8 l9 l10 l11 l12 : Option Value} {x : Nat} (hd : decode cc pc = .ok (.iinc 13 1, 3)) (hn : jnl l12 = true) (k : jV cc own d X b (pc + 3) (l0 :: l1 :: l2 :: l3 :: l4 :: l5 :: l6 :: l7 :: l8 :: l9 :: l10 :: l11 :: l12 :: some (.int (nI (x + 1))) :: r) st h) : jV cc own d X b pc (l0 :: l1 :: l2 :: l3 :: l4 :: l5 :: l6 :: l7 :: l8 :: l9 :: l10 :: l11 :: l12 :: some (.int (nI x)) :: r) st h := e_inc13 1 hd (by decide) hn (by rw [nI_1]; exact k)
theorem e_inc14N {l0 l1 l2 l3 l4 l5 l6 l7 l8 l9 l10 l11 l12 l13 : Option Value} {x : Nat} (hd : decode cc pc = .ok (.iinc 14 1, 3)) (hn : jnl l13 = true) (k : jV cc own d X b (pc + 3) (l0 :: l1 :: l2 :: l3 :: l4 :: l5 :: l6 :: l7 :: l8 :: l9 :: l10 :: l11 :: l12 :: l13 :: some (.int (nI (x + 1))) :: r) st h) : jV cc own d X b pc (l0 :: l1 :: l2 :: l3 :: l4 :: l5 :: l6 :: l7 :: l8 :: l9 :: l10 :: l11 :: l12 :: l13 :: some (.int (nI x)) :: r) st h := e_inc14 1 hd (by decide) hn (by rw [nI_1]; exact k)
theorem e_inc15N {l0 l1 l2 l3 l4 l5 l6 l7 l8 l9 l10 l11 l12 l13 l14 : Option Value} {x : Nat} (hd : decode cc pc = .ok (.iinc 15 1, 3)) (hn : jnl l14 = true) (k : jV cc own d X b (pc + 3) (l0 :: l1 :: l2 :: l3 :: l4 :: l5 :: l6 :: l7 :: l8 :: l9 :: l10 :: l11 :: l12 :: l13 :: l14 :: some (.int (nI (x + 1))) :: r) st h) : jV cc own d X b pc (l0 :: l1 :: l2 :: l3 :: l4 :: l5 :: l6 :: l7 :: l8 :: l9 :: l10 :: l11 :: l12 :: l13 :: l14 :: some (.int (nI x)) :: r) st h := e_inc15 1 hd (by decide) hn (by rw [nI_1]; exact k)
end JNI
/-- the same, of a member that the machine has no entry for -/
theorem jM.ofF {y : MethodName} {cc : ByteArray} {maxL : Nat} {ret : Option FieldType} {d : Nat} {b : jB} {av : List Value} {h : jH} {post : Option Value → jH → Prop} (hy : plainFor y = true) (hav : av.all (fun v => v.category == 1) = true) (hl : av.length ≤ maxL)
    (body : ∀ X : jX, jRet X ret b post → (y.name = "<init>" → jInit X) → jV cc y.cls d X b 0 (av.map some ++ List.replicate (maxL - av.length) none) [] h) : jM y cc maxL ret d b av h post := by
  intro l g
  refine va_MetF (cc := cc) (maxL := maxL) (ret := ret) hy rfl ?_
  intro p e s m args below meth c s₁ B hml hv
  obtain ⟨rfl, hR, hz, hK⟩ := hv
  have hcat : ∀ v ∈ av, v.category = 1 := fun v hv => by simpa using List.all_eq_true.mp hav v hv
  have e1 : ∀ vs : List Value, (∀ v ∈ vs, v.category = 1) → lg_sl (vs.map (jval g)) = vs.map (fun v => Slot.val (jval g v)) := by
    intro vs
    induction vs with
    | nil => intro _; rfl
    | cons v vs ih =>
      intro hc
      have h1 : ¬ (jval g v).category = 2 := by rw [jval_cat, hc v List.mem_cons_self]; decide
      have h2 := ih (fun w hw => hc w (List.mem_cons_of_mem _ hw))
      simp only [lg_sl, List.map_cons, List.flatMap_cons, h1, if_false] at h2 ⊢
      rw [h2]; rfl
  have e2 : ∀ (vs : List Value) (k : Nat), (∀ v ∈ vs, v.category = 1) → ∀ (i : Nat) (v : Value), vs[i]? = some v → (k + i, jval g v) ∈ lv_args k (vs.map (jval g)) := by
    intro vs
    induction vs with
    | nil => intro k _ i v h; simp at h
    | cons w vs ih =>
      intro k hc i v h
      have h1 : ¬ (jval g w).category = 2 := by rw [jval_cat, hc w List.mem_cons_self]; decide
      simp only [List.map_cons, lv_args, h1, if_false]
      cases i with
      | zero => simp at h; subst h; exact List.mem_cons_self
      | succ i =>
        have := ih (k + 1) (fun w hw => hc w (List.mem_cons_of_mem _ hw)) i v (by simpa using h)
        rw [show k + (i + 1) = k + 1 + i by omega]
        exact List.mem_cons_of_mem _ this
  have hlen : (lg_sl (av.map (jval g))).length = av.length := by rw [e1 av hcat]; simp
  have hent := lv_entry (av.map (jval g)) (n := maxL) (by rw [hlen]; exact hl)
  rw [lg_entry_eq]
  refine body (l, g, p, e, jroom d b, s, m, (av.map (jval g)).toArray, below, meth, c, MQ below (jQc g b post) (av.map (jval g)).toArray s (jbk b) (jbn b) (jA g)) ⟨B.returns, rfl, rfl, rfl⟩ (fun hi => (name_of_methodNamed B.named B.method).1.trans hi)
    ⟨B.exec, B.bytes, findClass_of_methodNamed B.named, fun w hw => atoms_spec (ws := Cond.code y cc maxL ret :: jT) B.pre w (List.mem_cons_of_mem _ hw), B.notSynchronized, Nat.le_refl _, Nat.le_refl _, hK⟩ s.heap [] _ 0 0 (by simp [jroom]) (by simp [jroom]) hR hz va_S.rf ⟨by simp; omega, ?_⟩
  rw [hml]
  refine ⟨hent.1, hent.2.1, fun q hq => hent.2.2 q ?_⟩
  obtain ⟨v, h1, h2⟩ := jal_of hq
  have h3 : av[q.1]? = some v := by
    by_cases hi : q.1 < av.length
    · rw [List.getElem?_append_left (by simp; exact hi), List.getElem?_map] at h1
      cases h4 : av[q.1]? with
      | none => rw [h4] at h1; cases h1
      | some w => rw [h4] at h1; cases h1; rfl
    · rw [List.getElem?_append_right (by simp; omega)] at h1
      have := List.eq_of_mem_replicate (List.mem_of_getElem? h1)
      cases this
  have h5 := e2 av 0 hcat q.1 v h3
  rw [Nat.zero_add, ← h2] at h5
  exact h5
