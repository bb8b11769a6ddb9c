section JR
variable {cc : ByteArray} {own : String} {d : Nat} {X : jX} {b : jB} {pc : Nat} {ls : List (Option Value)} {st : List Value} {h : jH}
theorem e_iadd {x y : Int32} (hd : decode cc pc = .ok (.iadd, 1)) (k : jV cc own d X b (pc + 1) ls (.int (x + y) :: st) h) : jV cc own d X b (pc) ls (.int y :: .int x :: st) h := by
  obtain ⟨l, g, p, e, R, s, m, args, below, meth, c, Q⟩ := X
  intro ok H locs a k' n' h1 h2 hR hz hS hL
  exact lv_iadd ok.1 ok.2.1 hd (k ok H locs a k' n' h1 h2 hR hz hS hL)
theorem e_isub {x y : Int32} (hd : decode cc pc = .ok (.isub, 1)) (k : jV cc own d X b (pc + 1) ls (.int (x - y) :: st) h) : jV cc own d X b (pc) ls (.int y :: .int x :: st) h := by
  obtain ⟨l, g, p, e, R, s, m, args, below, meth, c, Q⟩ := X
  intro ok H locs a k' n' h1 h2 hR hz hS hL
  exact lv_isub ok.1 ok.2.1 hd (k ok H locs a k' n' h1 h2 hR hz hS hL)
theorem e_imul {x y : Int32} (hd : decode cc pc = .ok (.imul, 1)) (k : jV cc own d X b (pc + 1) ls (.int (x * y) :: st) h) : jV cc own d X b (pc) ls (.int y :: .int x :: st) h := by
  obtain ⟨l, g, p, e, R, s, m, args, below, meth, c, Q⟩ := X
  intro ok H locs a k' n' h1 h2 hR hz hS hL
  exact lv_imul ok.1 ok.2.1 hd (k ok H locs a k' n' h1 h2 hR hz hS hL)
theorem e_iand {x y : Int32} (hd : decode cc pc = .ok (.iand, 1)) (k : jV cc own d X b (pc + 1) ls (.int (x &&& y) :: st) h) : jV cc own d X b (pc) ls (.int y :: .int x :: st) h := by
  obtain ⟨l, g, p, e, R, s, m, args, below, meth, c, Q⟩ := X
  intro ok H locs a k' n' h1 h2 hR hz hS hL
  exact lv_iand ok.1 ok.2.1 hd (k ok H locs a k' n' h1 h2 hR hz hS hL)
theorem e_ior {x y : Int32} (hd : decode cc pc = .ok (.ior, 1)) (k : jV cc own d X b (pc + 1) ls (.int (x ||| y) :: st) h) : jV cc own d X b (pc) ls (.int y :: .int x :: st) h := by
  obtain ⟨l, g, p, e, R, s, m, args, below, meth, c, Q⟩ := X
  intro ok H locs a k' n' h1 h2 hR hz hS hL
  exact lv_ior ok.1 ok.2.1 hd (k ok H locs a k' n' h1 h2 hR hz hS hL)
theorem e_ishl {x y : Int32} (hd : decode cc pc = .ok (.ishl, 1)) (k : jV cc own d X b (pc + 1) ls (.int (x <<< (y &&& 31)) :: st) h) : jV cc own d X b (pc) ls (.int y :: .int x :: st) h := by
  obtain ⟨l, g, p, e, R, s, m, args, below, meth, c, Q⟩ := X
  intro ok H locs a k' n' h1 h2 hR hz hS hL
  exact lv_ishl ok.1 ok.2.1 hd (k ok H locs a k' n' h1 h2 hR hz hS hL)
theorem e_ishr {x y : Int32} (hd : decode cc pc = .ok (.ishr, 1)) (k : jV cc own d X b (pc + 1) ls (.int (x >>> (y &&& 31)) :: st) h) : jV cc own d X b (pc) ls (.int y :: .int x :: st) h := by
  obtain ⟨l, g, p, e, R, s, m, args, below, meth, c, Q⟩ := X
  intro ok H locs a k' n' h1 h2 hR hz hS hL
  exact lv_ishr ok.1 ok.2.1 hd (k ok H locs a k' n' h1 h2 hR hz hS hL)
theorem e_iushr {x y : Int32} (hd : decode cc pc = .ok (.iushr, 1)) (k : jV cc own d X b (pc + 1) ls (.int (x.toUInt32 >>> (y.toUInt32 &&& Int32.toUInt32 31)).toInt32 :: st) h) : jV cc own d X b (pc) ls (.int y :: .int x :: st) h := by
  obtain ⟨l, g, p, e, R, s, m, args, below, meth, c, Q⟩ := X
  intro ok H locs a k' n' h1 h2 hR hz hS hL
  exact lv_iushr ok.1 ok.2.1 hd rfl (k ok H locs a k' n' h1 h2 hR hz hS hL)
theorem e_idiv {x y : Int32} (hd : decode cc pc = .ok (.idiv, 1)) (hne : ¬ y = 0) (k : jV cc own d X b (pc + 1) ls (.int (x / y) :: st) h) : jV cc own d X b (pc) ls (.int y :: .int x :: st) h := by
  obtain ⟨l, g, p, e, R, s, m, args, below, meth, c, Q⟩ := X
  intro ok H locs a k' n' h1 h2 hR hz hS hL
  exact lv_idiv ok.1 ok.2.1 hd hne (k ok H locs a k' n' h1 h2 hR hz hS hL)
theorem e_irem {x y : Int32} (hd : decode cc pc = .ok (.irem, 1)) (hne : ¬ y = 0) (k : jV cc own d X b (pc + 1) ls (.int (x - x / y * y) :: st) h) : jV cc own d X b (pc) ls (.int y :: .int x :: st) h := by
  obtain ⟨l, g, p, e, R, s, m, args, below, meth, c, Q⟩ := X
  intro ok H locs a k' n' h1 h2 hR hz hS hL
  exact lv_irem ok.1 ok.2.1 hd hne (k ok H locs a k' n' h1 h2 hR hz hS hL)
theorem e_ineg {x : Int32} (hd : decode cc pc = .ok (.ineg, 1)) (k : jV cc own d X b (pc + 1) ls (.int (-x) :: st) h) : jV cc own d X b (pc) ls (.int x :: st) h := by
  obtain ⟨l, g, p, e, R, s, m, args, below, meth, c, Q⟩ := X
  intro ok H locs a k' n' h1 h2 hR hz hS hL
  exact lv_ineg ok.1 ok.2.1 hd (k ok H locs a k' n' h1 h2 hR hz hS hL)
theorem e_i2b {x : Int32} (hd : decode cc pc = .ok (.i2b, 1)) (k : jV cc own d X b (pc + 1) ls (.int x.toInt8.toInt32 :: st) h) : jV cc own d X b (pc) ls (.int x :: st) h := by
  obtain ⟨l, g, p, e, R, s, m, args, below, meth, c, Q⟩ := X
  intro ok H locs a k' n' h1 h2 hR hz hS hL
  exact lv_i2b ok.1 ok.2.1 hd rfl (k ok H locs a k' n' h1 h2 hR hz hS hL)
theorem e_i2s {x : Int32} (hd : decode cc pc = .ok (.i2s, 1)) (k : jV cc own d X b (pc + 1) ls (.int x.toInt16.toInt32 :: st) h) : jV cc own d X b (pc) ls (.int x :: st) h := by
  obtain ⟨l, g, p, e, R, s, m, args, below, meth, c, Q⟩ := X
  intro ok H locs a k' n' h1 h2 hR hz hS hL
  exact lv_i2s ok.1 ok.2.1 hd rfl (k ok H locs a k' n' h1 h2 hR hz hS hL)
theorem e_i2l {x : Int32} (hd : decode cc pc = .ok (.i2l, 1)) (k : jV cc own d X b (pc + 1) ls (.long x.toInt64 :: st) h) : jV cc own d X b (pc) ls (.int x :: st) h := by
  obtain ⟨l, g, p, e, R, s, m, args, below, meth, c, Q⟩ := X
  intro ok H locs a k' n' h1 h2 hR hz hS hL
  exact lv_i2l ok.1 ok.2.1 hd rfl (k ok H locs a k' n' h1 h2 hR hz hS hL)
theorem e_l2i {x : Int64} (hd : decode cc pc = .ok (.l2i, 1)) (k : jV cc own d X b (pc + 1) ls (.int x.toInt32 :: st) h) : jV cc own d X b (pc) ls (.long x :: st) h := by
  obtain ⟨l, g, p, e, R, s, m, args, below, meth, c, Q⟩ := X
  intro ok H locs a k' n' h1 h2 hR hz hS hL
  exact lv_l2i ok.1 ok.2.1 hd rfl (k ok H locs a k' n' h1 h2 hR hz hS hL)
theorem e_lmul {x y : Int64} (hd : decode cc pc = .ok (.lmul, 1)) (k : jV cc own d X b (pc + 1) ls (.long (x * y) :: st) h) : jV cc own d X b (pc) ls (.long y :: .long x :: st) h := by
  obtain ⟨l, g, p, e, R, s, m, args, below, meth, c, Q⟩ := X
  intro ok H locs a k' n' h1 h2 hR hz hS hL
  exact lv_lmul ok.1 ok.2.1 hd (k ok H locs a k' n' h1 h2 hR hz hS hL)
theorem e_lrem {x y : Int64} (hd : decode cc pc = .ok (.lrem, 1)) (hne : ¬ y = 0) (k : jV cc own d X b (pc + 1) ls (.long (x - x / y * y) :: st) h) : jV cc own d X b (pc) ls (.long y :: .long x :: st) h := by
  obtain ⟨l, g, p, e, R, s, m, args, below, meth, c, Q⟩ := X
  intro ok H locs a k' n' h1 h2 hR hz hS hL
  exact lv_lrem ok.1 ok.2.1 hd hne (k ok H locs a k' n' h1 h2 hR hz hS hL)
theorem e_lcmp {x y : Int64} (hd : decode cc pc = .ok (.lcmp, 1)) (k : jV cc own d X b (pc + 1) ls (.int (lg_cmp x y) :: st) h) : jV cc own d X b (pc) ls (.long y :: .long x :: st) h := by
  obtain ⟨l, g, p, e, R, s, m, args, below, meth, c, Q⟩ := X
  intro ok H locs a k' n' h1 h2 hR hz hS hL
  exact W.lcmp ok.1 ok.2.1 hd (k ok H locs a k' n' h1 h2 hR hz hS hL)
theorem e_iconst {n : Int} (v : Int32) (hd : decode cc pc = .ok (.iconst n, 1)) (hv : Int32.ofInt n = v) (k : jV cc own d X b (pc + 1) ls (.int v :: st) h) : jV cc own d X b (pc) ls (st) h := by
  obtain ⟨l, g, p, e, R, s, m, args, below, meth, c, Q⟩ := X
  intro ok H locs a k' n' h1 h2 hR hz hS hL
  exact lv_iconst ok.1 ok.2.1 hd hv (k ok H locs a k' n' h1 h2 hR hz hS hL)
theorem e_bipush {n : Int} (v : Int32) (hd : decode cc pc = .ok (.bipush n, 2)) (hv : (Int8.ofInt n).toInt32 = v) (k : jV cc own d X b (pc + 2) ls (.int v :: st) h) : jV cc own d X b (pc) ls (st) h := by
  obtain ⟨l, g, p, e, R, s, m, args, below, meth, c, Q⟩ := X
  intro ok H locs a k' n' h1 h2 hR hz hS hL
  exact lv_bipush ok.1 ok.2.1 hd hv (k ok H locs a k' n' h1 h2 hR hz hS hL)
theorem e_sipush {n : Int} (v : Int32) (hd : decode cc pc = .ok (.sipush n, 3)) (hv : (Int16.ofInt n).toInt32 = v) (k : jV cc own d X b (pc + 3) ls (.int v :: st) h) : jV cc own d X b (pc) ls (st) h := by
  obtain ⟨l, g, p, e, R, s, m, args, below, meth, c, Q⟩ := X
  intro ok H locs a k' n' h1 h2 hR hz hS hL
  exact lv_sipush ok.1 ok.2.1 hd hv (k ok H locs a k' n' h1 h2 hR hz hS hL)
theorem e_lconst {n : Fin 2} (v : Int64) (hd : decode cc pc = .ok (.lconst n, 1)) (hv : Int64.ofNat (n : Nat) = v) (k : jV cc own d X b (pc + 1) ls (.long v :: st) h) : jV cc own d X b (pc) ls (st) h := by
  obtain ⟨l, g, p, e, R, s, m, args, below, meth, c, Q⟩ := X
  intro ok H locs a k' n' h1 h2 hR hz hS hL
  exact lv_lconst ok.1 ok.2.1 hd hv (k ok H locs a k' n' h1 h2 hR hz hS hL)
theorem e_ldc {i : Nat} {v : Int32} (hd : decode cc pc = .ok (.ldc i, 2)) (hc : Cond.constant own i v ∈ jT) (k : jV cc own d X b (pc + 2) ls (.int v :: st) h) : jV cc own d X b (pc) ls (st) h := by
  obtain ⟨l, g, p, e, R, s, m, args, below, meth, c, Q⟩ := X
  intro ok H locs a k' n' h1 h2 hR hz hS hL
  exact lv_ldc ok.1 ok.2.1 ok.2.2.1 (ok.2.2.2.1 _ hc) hd (k ok H locs a k' n' h1 h2 hR hz hS hL)
theorem e_ldcw {i : Nat} {v : Int32} (hd : decode cc pc = .ok (.ldc_w i, 3)) (hc : Cond.constant own i v ∈ jT) (k : jV cc own d X b (pc + 3) ls (.int v :: st) h) : jV cc own d X b (pc) ls (st) h := by
  obtain ⟨l, g, p, e, R, s, m, args, below, meth, c, Q⟩ := X
  intro ok H locs a k' n' h1 h2 hR hz hS hL
  exact lv_ldcw ok.1 ok.2.1 ok.2.2.1 (ok.2.2.2.1 _ hc) hd (k ok H locs a k' n' h1 h2 hR hz hS hL)
theorem e_ldc2 {i : Nat} {v : Int64} (hd : decode cc pc = .ok (.ldc2_w i, 3)) (hc : Cond.constantLong own i v ∈ jT) (k : jV cc own d X b (pc + 3) ls (.long v :: st) h) : jV cc own d X b (pc) ls (st) h := by
  obtain ⟨l, g, p, e, R, s, m, args, below, meth, c, Q⟩ := X
  intro ok H locs a k' n' h1 h2 hR hz hS hL
  exact lv_ldc2 ok.1 ok.2.1 ok.2.2.1 (ok.2.2.2.1 _ hc) hd (k ok H locs a k' n' h1 h2 hR hz hS hL)
theorem e_dup {v : Value} (hd : decode cc pc = .ok (.dup, 1)) (hv : v.category = 1) (k : jV cc own d X b (pc + 1) ls (v :: v :: st) h) : jV cc own d X b (pc) ls (v :: st) h := by
  obtain ⟨l, g, p, e, R, s, m, args, below, meth, c, Q⟩ := X
  intro ok H locs a k' n' h1 h2 hR hz hS hL
  exact lv_dup ok.1 ok.2.1 hd (by rw [jval_cat]; exact hv) (k ok H locs a k' n' h1 h2 hR hz hS hL)
theorem e_pop {v : Value} (hd : decode cc pc = .ok (.pop, 1)) (hv : v.category = 1) (k : jV cc own d X b (pc + 1) ls (st) h) : jV cc own d X b (pc) ls (v :: st) h := by
  obtain ⟨l, g, p, e, R, s, m, args, below, meth, c, Q⟩ := X
  intro ok H locs a k' n' h1 h2 hR hz hS hL
  exact lv_pop ok.1 ok.2.1 hd (by rw [jval_cat]; exact hv) (k ok H locs a k' n' h1 h2 hR hz hS hL)
theorem e_dup2 {v w : Value} (hd : decode cc pc = .ok (.dup2, 1)) (hv : v.category = 1) (hw : w.category = 1) (k : jV cc own d X b (pc + 1) ls (v :: w :: v :: w :: st) h) : jV cc own d X b (pc) ls (v :: w :: st) h := by
  obtain ⟨l, g, p, e, R, s, m, args, below, meth, c, Q⟩ := X
  intro ok H locs a k' n' h1 h2 hR hz hS hL
  exact lv_dup2_11 ok.1 ok.2.1 hd (by rw [jval_cat]; exact hv) (by rw [jval_cat]; exact hw) (k ok H locs a k' n' h1 h2 hR hz hS hL)
theorem e_if_eq {x : Int32} {off : Int} (tgt : Nat) (hd : decode cc pc = .ok (.ifCond .eq off, 3)) (ht : (pc : Int) + off = (tgt : Int)) (kt : x = 0 → jV cc own d X b (tgt) ls (st) h) (kf : ¬ x = 0 → jV cc own d X b (pc + 3) ls (st) h) : jV cc own d X b (pc) ls (.int x :: st) h := by
  obtain ⟨l, g, p, e, R, s, m, args, below, meth, c, Q⟩ := X
  intro ok H locs a k' n' h1 h2 hR hz hS hL
  exact lv_if_eq ok.1 ok.2.1 hd ht (fun z => kt z ok H locs a k' n' h1 h2 hR hz hS hL) (fun z => kf z ok H locs a k' n' h1 h2 hR hz hS hL)
theorem e_ic_eq {x y : Int32} {off : Int} (tgt : Nat) (hd : decode cc pc = .ok (.if_icmp .eq off, 3)) (ht : (pc : Int) + off = (tgt : Int)) (kt : x = y → jV cc own d X b (tgt) ls (st) h) (kf : ¬ x = y → jV cc own d X b (pc + 3) ls (st) h) : jV cc own d X b (pc) ls (.int y :: .int x :: st) h := by
  obtain ⟨l, g, p, e, R, s, m, args, below, meth, c, Q⟩ := X
  intro ok H locs a k' n' h1 h2 hR hz hS hL
  exact lv_icmp_eq ok.1 ok.2.1 hd ht (fun z => kt z ok H locs a k' n' h1 h2 hR hz hS hL) (fun z => kf z ok H locs a k' n' h1 h2 hR hz hS hL)
theorem e_if_ne {x : Int32} {off : Int} (tgt : Nat) (hd : decode cc pc = .ok (.ifCond .ne off, 3)) (ht : (pc : Int) + off = (tgt : Int)) (kt : ¬ x = 0 → jV cc own d X b (tgt) ls (st) h) (kf : x = 0 → jV cc own d X b (pc + 3) ls (st) h) : jV cc own d X b (pc) ls (.int x :: st) h := by
  obtain ⟨l, g, p, e, R, s, m, args, below, meth, c, Q⟩ := X
  intro ok H locs a k' n' h1 h2 hR hz hS hL
  exact lv_if_ne ok.1 ok.2.1 hd ht (fun z => kt z ok H locs a k' n' h1 h2 hR hz hS hL) (fun z => kf z ok H locs a k' n' h1 h2 hR hz hS hL)
theorem e_ic_ne {x y : Int32} {off : Int} (tgt : Nat) (hd : decode cc pc = .ok (.if_icmp .ne off, 3)) (ht : (pc : Int) + off = (tgt : Int)) (kt : ¬ x = y → jV cc own d X b (tgt) ls (st) h) (kf : x = y → jV cc own d X b (pc + 3) ls (st) h) : jV cc own d X b (pc) ls (.int y :: .int x :: st) h := by
  obtain ⟨l, g, p, e, R, s, m, args, below, meth, c, Q⟩ := X
  intro ok H locs a k' n' h1 h2 hR hz hS hL
  exact lv_icmp_ne ok.1 ok.2.1 hd ht (fun z => kt z ok H locs a k' n' h1 h2 hR hz hS hL) (fun z => kf z ok H locs a k' n' h1 h2 hR hz hS hL)
theorem e_if_lt {x : Int32} {off : Int} (tgt : Nat) (hd : decode cc pc = .ok (.ifCond .lt off, 3)) (ht : (pc : Int) + off = (tgt : Int)) (kt : x < 0 → jV cc own d X b (tgt) ls (st) h) (kf : ¬ x < 0 → jV cc own d X b (pc + 3) ls (st) h) : jV cc own d X b (pc) ls (.int x :: st) h := by
  obtain ⟨l, g, p, e, R, s, m, args, below, meth, c, Q⟩ := X
  intro ok H locs a k' n' h1 h2 hR hz hS hL
  exact lv_if_lt ok.1 ok.2.1 hd ht (fun z => kt z ok H locs a k' n' h1 h2 hR hz hS hL) (fun z => kf z ok H locs a k' n' h1 h2 hR hz hS hL)
theorem e_ic_lt {x y : Int32} {off : Int} (tgt : Nat) (hd : decode cc pc = .ok (.if_icmp .lt off, 3)) (ht : (pc : Int) + off = (tgt : Int)) (kt : x < y → jV cc own d X b (tgt) ls (st) h) (kf : ¬ x < y → jV cc own d X b (pc + 3) ls (st) h) : jV cc own d X b (pc) ls (.int y :: .int x :: st) h := by
  obtain ⟨l, g, p, e, R, s, m, args, below, meth, c, Q⟩ := X
  intro ok H locs a k' n' h1 h2 hR hz hS hL
  exact lv_icmp_lt ok.1 ok.2.1 hd ht (fun z => kt z ok H locs a k' n' h1 h2 hR hz hS hL) (fun z => kf z ok H locs a k' n' h1 h2 hR hz hS hL)
theorem e_if_ge {x : Int32} {off : Int} (tgt : Nat) (hd : decode cc pc = .ok (.ifCond .ge off, 3)) (ht : (pc : Int) + off = (tgt : Int)) (kt : 0 ≤ x → jV cc own d X b (tgt) ls (st) h) (kf : ¬ 0 ≤ x → jV cc own d X b (pc + 3) ls (st) h) : jV cc own d X b (pc) ls (.int x :: st) h := by
  obtain ⟨l, g, p, e, R, s, m, args, below, meth, c, Q⟩ := X
  intro ok H locs a k' n' h1 h2 hR hz hS hL
  exact lv_if_ge ok.1 ok.2.1 hd ht (fun z => kt z ok H locs a k' n' h1 h2 hR hz hS hL) (fun z => kf z ok H locs a k' n' h1 h2 hR hz hS hL)
theorem e_ic_ge {x y : Int32} {off : Int} (tgt : Nat) (hd : decode cc pc = .ok (.if_icmp .ge off, 3)) (ht : (pc : Int) + off = (tgt : Int)) (kt : y ≤ x → jV cc own d X b (tgt) ls (st) h) (kf : ¬ y ≤ x → jV cc own d X b (pc + 3) ls (st) h) : jV cc own d X b (pc) ls (.int y :: .int x :: st) h := by
  obtain ⟨l, g, p, e, R, s, m, args, below, meth, c, Q⟩ := X
  intro ok H locs a k' n' h1 h2 hR hz hS hL
  exact lv_icmp_ge ok.1 ok.2.1 hd ht (fun z => kt z ok H locs a k' n' h1 h2 hR hz hS hL) (fun z => kf z ok H locs a k' n' h1 h2 hR hz hS hL)
theorem e_if_gt {x : Int32} {off : Int} (tgt : Nat) (hd : decode cc pc = .ok (.ifCond .gt off, 3)) (ht : (pc : Int) + off = (tgt : Int)) (kt : 0 < x → jV cc own d X b (tgt) ls (st) h) (kf : ¬ 0 < x → jV cc own d X b (pc + 3) ls (st) h) : jV cc own d X b (pc) ls (.int x :: st) h := by
  obtain ⟨l, g, p, e, R, s, m, args, below, meth, c, Q⟩ := X
  intro ok H locs a k' n' h1 h2 hR hz hS hL
  exact lv_if_gt ok.1 ok.2.1 hd ht (fun z => kt z ok H locs a k' n' h1 h2 hR hz hS hL) (fun z => kf z ok H locs a k' n' h1 h2 hR hz hS hL)
theorem e_ic_gt {x y : Int32} {off : Int} (tgt : Nat) (hd : decode cc pc = .ok (.if_icmp .gt off, 3)) (ht : (pc : Int) + off = (tgt : Int)) (kt : y < x → jV cc own d X b (tgt) ls (st) h) (kf : ¬ y < x → jV cc own d X b (pc + 3) ls (st) h) : jV cc own d X b (pc) ls (.int y :: .int x :: st) h := by
  obtain ⟨l, g, p, e, R, s, m, args, below, meth, c, Q⟩ := X
  intro ok H locs a k' n' h1 h2 hR hz hS hL
  exact lv_icmp_gt ok.1 ok.2.1 hd ht (fun z => kt z ok H locs a k' n' h1 h2 hR hz hS hL) (fun z => kf z ok H locs a k' n' h1 h2 hR hz hS hL)
theorem e_if_le {x : Int32} {off : Int} (tgt : Nat) (hd : decode cc pc = .ok (.ifCond .le off, 3)) (ht : (pc : Int) + off = (tgt : Int)) (kt : x ≤ 0 → jV cc own d X b (tgt) ls (st) h) (kf : ¬ x ≤ 0 → jV cc own d X b (pc + 3) ls (st) h) : jV cc own d X b (pc) ls (.int x :: st) h := by
  obtain ⟨l, g, p, e, R, s, m, args, below, meth, c, Q⟩ := X
  intro ok H locs a k' n' h1 h2 hR hz hS hL
  exact lv_if_le ok.1 ok.2.1 hd ht (fun z => kt z ok H locs a k' n' h1 h2 hR hz hS hL) (fun z => kf z ok H locs a k' n' h1 h2 hR hz hS hL)
theorem e_ic_le {x y : Int32} {off : Int} (tgt : Nat) (hd : decode cc pc = .ok (.if_icmp .le off, 3)) (ht : (pc : Int) + off = (tgt : Int)) (kt : x ≤ y → jV cc own d X b (tgt) ls (st) h) (kf : ¬ x ≤ y → jV cc own d X b (pc + 3) ls (st) h) : jV cc own d X b (pc) ls (.int y :: .int x :: st) h := by
  obtain ⟨l, g, p, e, R, s, m, args, below, meth, c, Q⟩ := X
  intro ok H locs a k' n' h1 h2 hR hz hS hL
  exact lv_icmp_le ok.1 ok.2.1 hd ht (fun z => kt z ok H locs a k' n' h1 h2 hR hz hS hL) (fun z => kf z ok H locs a k' n' h1 h2 hR hz hS hL)
theorem e_goto {off : Int} (tgt : Nat) (hd : decode cc pc = .ok (.goto off, 3)) (ht : (pc : Int) + off = (tgt : Int)) (k : jV cc own d X b (tgt) ls (st) h) : jV cc own d X b (pc) ls (st) h := by
  obtain ⟨l, g, p, e, R, s, m, args, below, meth, c, Q⟩ := X
  intro ok H locs a k' n' h1 h2 hR hz hS hL
  exact lv_goto ok.1 ok.2.1 hd ht (k ok H locs a k' n' h1 h2 hR hz hS hL)
theorem e_tin {dflt lo hi : Int} {offs : Array Int} {len : Nat} {x : Int32} {off : Int} (tgt : Nat) (hd : decode cc pc = .ok (.tableswitch dflt lo hi offs, len)) (q1 : ¬ x.toInt < lo) (q2 : ¬ hi < x.toInt) (ho : offs[(x.toInt - lo).toNat]? = some off) (ht : (pc : Int) + off = (tgt : Int)) (k : jV cc own d X b (tgt) ls (st) h) : jV cc own d X b (pc) ls (.int x :: st) h := by
  obtain ⟨l, g, p, e, R, s, m, args, below, meth, c, Q⟩ := X
  intro ok H locs a k' n' h1 h2 hR hz hS hL
  exact lv_tableIn ok.1 ok.2.1 hd q1 q2 ho ht (k ok H locs a k' n' h1 h2 hR hz hS hL)
theorem e_tout {dflt lo hi : Int} {offs : Array Int} {len : Nat} {x : Int32} (tgt : Nat) (hd : decode cc pc = .ok (.tableswitch dflt lo hi offs, len)) (q : x.toInt < lo ∨ hi < x.toInt) (ht : (pc : Int) + dflt = (tgt : Int)) (k : jV cc own d X b (tgt) ls (st) h) : jV cc own d X b (pc) ls (.int x :: st) h := by
  obtain ⟨l, g, p, e, R, s, m, args, below, meth, c, Q⟩ := X
  intro ok H locs a k' n' h1 h2 hR hz hS hL
  exact lv_tableOut ok.1 ok.2.1 hd q ht (k ok H locs a k' n' h1 h2 hR hz hS hL)
theorem e_look {dflt : Int} {ps : Array (Int × Int)} {len : Nat} {x : Int32} {off : Int} (tgt : Nat) (hd : decode cc pc = .ok (.lookupswitch dflt ps, len)) (hp : (ps.toList.zip (ps.toList.drop 1)).all (fun (a, next) => a.1 < next.1) = true) (ho : Op.lookupswitch.offset ps.toList dflt x.toInt = off) (ht : (pc : Int) + off = (tgt : Int)) (k : jV cc own d X b (tgt) ls (st) h) : jV cc own d X b (pc) ls (.int x :: st) h := by
  obtain ⟨l, g, p, e, R, s, m, args, below, meth, c, Q⟩ := X
  intro ok H locs a k' n' h1 h2 hR hz hS hL
  exact lv_lookup ok.1 ok.2.1 hd hp ho ht (k ok H locs a k' n' h1 h2 hR hz hS hL)
theorem eg_iload_n {q : Fin 4} {x : Int32} (hd : decode cc pc = .ok (.iload_n q, 1)) (hl : ls[(q : Nat)]? = some (some (.int x))) (k : jV cc own d X b (pc + 1) ls (.int x :: st) h) : jV cc own d X b (pc) ls (st) h := by
  obtain ⟨l, g, p, e, R, s, m, args, below, meth, c, Q⟩ := X
  intro ok H locs a k' n' h1 h2 hR hz hS hL
  exact lv_iload_n ok.1 ok.2.1 hd rfl (jL_at hL hl) (k ok H locs a k' n' h1 h2 hR hz hS hL)
theorem eg_aload_n {q : Fin 4} {x : Nat} (hd : decode cc pc = .ok (.aload_n q, 1)) (hl : ls[(q : Nat)]? = some (some (.ref x))) (k : jV cc own d X b (pc + 1) ls (.ref x :: st) h) : jV cc own d X b (pc) ls (st) h := by
  obtain ⟨l, g, p, e, R, s, m, args, below, meth, c, Q⟩ := X
  intro ok H locs a k' n' h1 h2 hR hz hS hL
  exact lv_aload_n ok.1 ok.2.1 hd rfl (jL_at hL hl) (k ok H locs a k' n' h1 h2 hR hz hS hL)
theorem eg_iload {q : Nat} {x : Int32} (hd : decode cc pc = .ok (.iload q, 2)) (hl : ls[q]? = some (some (.int x))) (k : jV cc own d X b (pc + 2) ls (.int x :: st) h) : jV cc own d X b (pc) ls (st) h := by
  obtain ⟨l, g, p, e, R, s, m, args, below, meth, c, Q⟩ := X
  intro ok H locs a k' n' h1 h2 hR hz hS hL
  exact lv_iload ok.1 ok.2.1 hd (jL_at hL hl) (k ok H locs a k' n' h1 h2 hR hz hS hL)
theorem eg_aload {q : Nat} {x : Nat} (hd : decode cc pc = .ok (.aload q, 2)) (hl : ls[q]? = some (some (.ref x))) (k : jV cc own d X b (pc + 2) ls (.ref x :: st) h) : jV cc own d X b (pc) ls (st) h := by
  obtain ⟨l, g, p, e, R, s, m, args, below, meth, c, Q⟩ := X
  intro ok H locs a k' n' h1 h2 hR hz hS hL
  exact lv_aload ok.1 ok.2.1 hd (jL_at hL hl) (k ok H locs a k' n' h1 h2 hR hz hS hL)
theorem eg_lload {q : Nat} {x : Int64} (hd : decode cc pc = .ok (.lload q, 2)) (hl : ls[q]? = some (some (.long x))) (k : jV cc own d X b (pc + 2) ls (.long x :: st) h) : jV cc own d X b (pc) ls (st) h := by
  obtain ⟨l, g, p, e, R, s, m, args, below, meth, c, Q⟩ := X
  intro ok H locs a k' n' h1 h2 hR hz hS hL
  exact lv_lload ok.1 ok.2.1 hd (jL_at hL hl) (k ok H locs a k' n' h1 h2 hR hz hS hL)
theorem eg_istore_n {q : Fin 4} {x : Int32} (hd : decode cc pc = .ok (.istore_n q, 1)) (hi : (q : Nat) < ls.length) (hn : ∀ j : Nat, j + 1 = (q : Nat) → ∀ w : Value, ls[j]? = some (some w) → w.category = 1) (k : jV cc own d X b (pc + 1) (ls.set (q : Nat) (some (.int x))) (st) h) : jV cc own d X b (pc) ls (.int x :: st) h := by
  obtain ⟨l, g, p, e, R, s, m, args, below, meth, c, Q⟩ := X
  intro ok H locs a k' n' h1 h2 hR hz hS hL
  exact lv_istore_n ok.1 ok.2.1 hd rfl hL.2 (by rw [← hL.1]; exact hi) rfl (fun a' h' => k ok H locs a' k' n' h1 h2 hR hz hS (jL_set1 (v := .int x) hL hi hn h'))
theorem eg_istore {q : Nat} {x : Int32} (hd : decode cc pc = .ok (.istore q, 2)) (hi : q < ls.length) (hn : ∀ j : Nat, j + 1 = (q : Nat) → ∀ w : Value, ls[j]? = some (some w) → w.category = 1) (k : jV cc own d X b (pc + 2) (ls.set q (some (.int x))) (st) h) : jV cc own d X b (pc) ls (.int x :: st) h := by
  obtain ⟨l, g, p, e, R, s, m, args, below, meth, c, Q⟩ := X
  intro ok H locs a k' n' h1 h2 hR hz hS hL
  exact lv_istore ok.1 ok.2.1 hd hL.2 (by rw [← hL.1]; exact hi) rfl (fun a' h' => k ok H locs a' k' n' h1 h2 hR hz hS (jL_set1 (v := .int x) hL hi hn h'))
theorem eg_astore_n {q : Fin 4} {x : Nat} (hd : decode cc pc = .ok (.astore_n q, 1)) (hi : (q : Nat) < ls.length) (hn : ∀ j : Nat, j + 1 = (q : Nat) → ∀ w : Value, ls[j]? = some (some w) → w.category = 1) (k : jV cc own d X b (pc + 1) (ls.set (q : Nat) (some (.ref x))) (st) h) : jV cc own d X b (pc) ls (.ref x :: st) h := by
  obtain ⟨l, g, p, e, R, s, m, args, below, meth, c, Q⟩ := X
  intro ok H locs a k' n' h1 h2 hR hz hS hL
  exact lv_astore_n ok.1 ok.2.1 hd rfl hL.2 (by rw [← hL.1]; exact hi) rfl (fun a' h' => k ok H locs a' k' n' h1 h2 hR hz hS (jL_set1 (v := .ref x) hL hi hn h'))
theorem eg_astore {q : Nat} {x : Nat} (hd : decode cc pc = .ok (.astore q, 2)) (hi : q < ls.length) (hn : ∀ j : Nat, j + 1 = (q : Nat) → ∀ w : Value, ls[j]? = some (some w) → w.category = 1) (k : jV cc own d X b (pc + 2) (ls.set q (some (.ref x))) (st) h) : jV cc own d X b (pc) ls (.ref x :: st) h := by
  obtain ⟨l, g, p, e, R, s, m, args, below, meth, c, Q⟩ := X
  intro ok H locs a k' n' h1 h2 hR hz hS hL
  exact lv_astore ok.1 ok.2.1 hd hL.2 (by rw [← hL.1]; exact hi) rfl (fun a' h' => k ok H locs a' k' n' h1 h2 hR hz hS (jL_set1 (v := .ref x) hL hi hn h'))
theorem jL_set2 {g : jG} {c : Code} {ls : List (Option Value)} {a a' : Array Slot} {i : Nat} {x : Int64} (h : jL g c ls a) (hi : i + 1 < ls.length) (hn : ∀ j : Nat, j + 1 = i → ∀ w : Value, ls[j]? = some (some w) → w.category = 1)
    (h' : lv_has a' c.maxLocals ((i, Value.long x) :: (jal g ls).filter (fun q => !(q.1 == i) && (!(q.1 == i + 1) && !(q.1 + 1 == i && q.2.category == 2))))) : jL g c ((ls.set i (some (.long x))).set (i + 1) none) a' := by
  refine ⟨by simp; exact h.1, h'.1, h'.2.1, fun q hq => ?_⟩
  obtain ⟨w, hw, e⟩ := jal_of hq
  refine h'.2.2 q ?_
  have n1 : ¬ i + 1 = q.1 := fun z => by
    rw [← z, List.getElem?_set_self (by simp; omega)] at hw
    cases hw
  rw [List.getElem?_set_ne n1] at hw
  by_cases hk : i = q.1
  · rw [← hk, List.getElem?_set_self (by omega)] at hw
    cases hw
    exact List.mem_cons.mpr (Or.inl (Prod.ext hk.symm e))
  · rw [List.getElem?_set_ne hk] at hw
    refine List.mem_cons_of_mem _ (List.mem_filter.mpr ⟨?_, ?_⟩)
    · have := jal_mem (g := g) hw
      rw [← e] at this
      exact this
    · have hc : q.1 + 1 = i → (q.2).category = 1 := fun z => by rw [e, jval_cat]; exact hn q.1 z w hw
      simp only [Bool.and_eq_true, Bool.not_eq_true', beq_eq_false_iff_ne, ne_eq, Bool.and_eq_false_iff]
      refine ⟨fun z => hk z.symm, fun z => n1 z.symm, ?_⟩
      by_cases z : q.1 + 1 = i
      · exact Or.inr (by rw [hc z]; decide)
      · exact Or.inl z
theorem eg_lstore {q : Nat} {x : Int64} (hd : decode cc pc = .ok (.lstore q, 2)) (hi : q + 1 < ls.length) (hn : ∀ j : Nat, j + 1 = (q : Nat) → ∀ w : Value, ls[j]? = some (some w) → w.category = 1) (k : jV cc own d X b (pc + 2) ((ls.set q (some (.long x))).set (q + 1) none) (st) h) : jV cc own d X b (pc) ls (.long x :: st) h := by
  obtain ⟨l, g, p, e, R, s, m, args, below, meth, c, Q⟩ := X
  intro ok H locs a k' n' h1 h2 hR hz hS hL
  exact lv_lstore ok.1 ok.2.1 hd hL.2 (by rw [← hL.1]; exact hi) rfl (fun a' h' => k ok H locs a' k' n' h1 h2 hR hz hS (jL_set2 hL hi hn h'))
theorem eg_iinc {q : Nat} {n : Int} {x v : Int32} (hd : decode cc pc = .ok (.iinc q n, 3)) (hl : ls[q]? = some (some (.int x))) (hv : x + Int32.ofInt n = v) (hn : ∀ j : Nat, j + 1 = (q : Nat) → ∀ w : Value, ls[j]? = some (some w) → w.category = 1) (k : jV cc own d X b (pc + 3) (ls.set q (some (.int v))) (st) h) : jV cc own d X b (pc) ls (st) h := by
  obtain ⟨l, g, p, e, R, s, m, args, below, meth, c, Q⟩ := X
  intro ok H locs a k' n' h1 h2 hR hz hS hL
  obtain ⟨j, hj⟩ := List.getElem?_of_mem (jal_mem (g := g) hl)
  have hi : q < ls.length := (List.getElem?_eq_some_iff.mp hl).1
  exact lv_iinc (k := j) ok.1 ok.2.1 hd hL.2 hj hv (by rw [← hL.1]; exact hi) rfl (fun a' h' => k ok H locs a' k' n' h1 h2 hR hz hS (jL_set1 (v := .int v) hL hi hn h'))
end JR
theorem jn_at {ls : List (Option Value)} {i : Nat} {l : Option Value} (hi : ls[i]? = some l) (hn : jnl l = true) : ∀ j : Nat, j + 1 = i + 1 → ∀ w : Value, ls[j]? = some (some w) → w.category = 1 := by
  intro j hj w hw
  have z : j = i := by omega
  subst z
  have e : some l = some (some w) := hi.symm.trans hw
  cases e
  exact jnl_cat hn
theorem jn_0 {ls : List (Option Value)} : ∀ j : Nat, j + 1 = 0 → ∀ w : Value, ls[j]? = some (some w) → w.category = 1 := fun j hj => by omega
section JP
variable {cc : ByteArray} {own : String} {d : Nat} {X : jX} {b : jB} {pc : Nat} {r : List (Option Value)} {st : List Value} {h : jH}
theorem e_il0 {x : Int32} (hd : decode cc pc = .ok (.iload_n 0, 1)) (k : jV cc own d X b (pc + 1) (some (.int x) :: r) (.int x :: st) h) : jV cc own d X b pc (some (.int x) :: r) st h := eg_iload_n hd rfl k
theorem e_al0 {x : Nat} (hd : decode cc pc = .ok (.aload_n 0, 1)) (k : jV cc own d X b (pc + 1) (some (.ref x) :: r) (.ref x :: st) h) : jV cc own d X b pc (some (.ref x) :: r) st h := eg_aload_n hd rfl k
theorem e_is0 {z : Option Value} {x : Int32} (hd : decode cc pc = .ok (.istore_n 0, 1)) (k : jV cc own d X b (pc + 1) (some (.int x) :: r) st h) : jV cc own d X b pc (z :: r) (.int x :: st) h := eg_istore_n hd (by show 0 < List.length _; simp only [List.length_cons]; omega) (jn_0) k
theorem e_as0 {z : Option Value} {x : Nat} (hd : decode cc pc = .ok (.astore_n 0, 1)) (k : jV cc own d X b (pc + 1) (some (.ref x) :: r) st h) : jV cc own d X b pc (z :: r) (.ref x :: st) h := eg_astore_n hd (by show 0 < List.length _; simp only [List.length_cons]; omega) (jn_0) k
theorem e_inc0 {n : Int} {x : Int32} (c : Int32) (hd : decode cc pc = .ok (.iinc 0 n, 3)) (hc : Int32.ofInt n = c) (k : jV cc own d X b (pc + 3) (some (.int (x + c)) :: r) st h) : jV cc own d X b pc (some (.int x) :: r) st h := eg_iinc (v := x + c) hd rfl (by rw [hc]) (jn_0) k
theorem e_il1 {l0 : Option Value} {x : Int32} (hd : decode cc pc = .ok (.iload_n 1, 1)) (k : jV cc own d X b (pc + 1) (l0 :: some (.int x) :: r) (.int x :: st) h) : jV cc own d X b pc (l0 :: some (.int x) :: r) st h := eg_iload_n hd rfl k
theorem e_al1 {l0 : Option Value} {x : Nat} (hd : decode cc pc = .ok (.aload_n 1, 1)) (k : jV cc own d X b (pc + 1) (l0 :: some (.ref x) :: r) (.ref x :: st) h) : jV cc own d X b pc (l0 :: some (.ref x) :: r) st h := eg_aload_n hd rfl k
theorem e_is1 {l0 : Option Value} {z : Option Value} {x : Int32} (hd : decode cc pc = .ok (.istore_n 1, 1)) (hn : jnl l0 = true) (k : jV cc own d X b (pc + 1) (l0 :: some (.int x) :: r) st h) : jV cc own d X b pc (l0 :: z :: r) (.int x :: st) h := eg_istore_n hd (by show 1 < List.length _; simp only [List.length_cons]; omega) (jn_at (i := 0) rfl hn) k
theorem e_as1 {l0 : Option Value} {z : Option Value} {x : Nat} (hd : decode cc pc = .ok (.astore_n 1, 1)) (hn : jnl l0 = true) (k : jV cc own d X b (pc + 1) (l0 :: some (.ref x) :: r) st h) : jV cc own d X b pc (l0 :: z :: r) (.ref x :: st) h := eg_astore_n hd (by show 1 < List.length _; simp only [List.length_cons]; omega) (jn_at (i := 0) rfl hn) k
theorem e_inc1 {l0 : Option Value} {n : Int} {x : Int32} (c : Int32) (hd : decode cc pc = .ok (.iinc 1 n, 3)) (hc : Int32.ofInt n = c) (hn : jnl l0 = true) (k : jV cc own d X b (pc + 3) (l0 :: some (.int (x + c)) :: r) st h) : jV cc own d X b pc (l0 :: some (.int x) :: r) st h := eg_iinc (v := x + c) hd rfl (by rw [hc]) (jn_at (i := 0) rfl hn) k
theorem e_il2 {l0 l1 : Option Value} {x : Int32} (hd : decode cc pc = .ok (.iload_n 2, 1)) (k : jV cc own d X b (pc + 1) (l0 :: l1 :: some (.int x) :: r) (.int x :: st) h) : jV cc own d X b pc (l0 :: l1 :: some (.int x) :: r) st h := eg_iload_n hd rfl k
theorem e_al2 {l0 l1 : Option Value} {x : Nat} (hd : decode cc pc = .ok (.aload_n 2, 1)) (k : jV cc own d X b (pc + 1) (l0 :: l1 :: some (.ref x) :: r) (.ref x :: st) h) : jV cc own d X b pc (l0 :: l1 :: some (.ref x) :: r) st h := eg_aload_n hd rfl k
theorem e_is2 {l0 l1 : Option Value} {z : Option Value} {x : Int32} (hd : decode cc pc = .ok (.istore_n 2, 1)) (hn : jnl l1 = true) (k : jV cc own d X b (pc + 1) (l0 :: l1 :: some (.int x) :: r) st h) : jV cc own d X b pc (l0 :: l1 :: z :: r) (.int x :: st) h := eg_istore_n hd (by show 2 < List.length _; simp only [List.length_cons]; omega) (jn_at (i := 1) rfl hn) k
theorem e_as2 {l0 l1 : Option Value} {z : Option Value} {x : Nat} (hd : decode cc pc = .ok (.astore_n 2, 1)) (hn : jnl l1 = true) (k : jV cc own d X b (pc + 1) (l0 :: l1 :: some (.ref x) :: r) st h) : jV cc own d X b pc (l0 :: l1 :: z :: r) (.ref x :: st) h := eg_astore_n hd (by show 2 < List.length _; simp only [List.length_cons]; omega) (jn_at (i := 1) rfl hn) k
theorem e_inc2 {l0 l1 : Option Value} {n : Int} {x : Int32} (c : Int32) (hd : decode cc pc = .ok (.iinc 2 n, 3)) (hc : Int32.ofInt n = c) (hn : jnl l1 = true) (k : jV cc own d X b (pc + 3) (l0 :: l1 :: some (.int (x + c)) :: r) st h) : jV cc own d X b pc (l0 :: l1 :: some (.int x) :: r) st h := eg_iinc (v := x + c) hd rfl (by rw [hc]) (jn_at (i := 1) rfl hn) k
theorem e_il3 {l0 l1 l2 : Option Value} {x : Int32} (hd : decode cc pc = .ok (.iload_n 3, 1)) (k : jV cc own d X b (pc + 1) (l0 :: l1 :: l2 :: some (.int x) :: r) (.int x :: st) h) : jV cc own d X b pc (l0 :: l1 :: l2 :: some (.int x) :: r) st h := eg_iload_n hd rfl k
theorem e_al3 {l0 l1 l2 : Option Value} {x : Nat} (hd : decode cc pc = .ok (.aload_n 3, 1)) (k : jV cc own d X b (pc + 1) (l0 :: l1 :: l2 :: some (.ref x) :: r) (.ref x :: st) h) : jV cc own d X b pc (l0 :: l1 :: l2 :: some (.ref x) :: r) st h := eg_aload_n hd rfl k
theorem e_is3 {l0 l1 l2 : Option Value} {z : Option Value} {x : Int32} (hd : decode cc pc = .ok (.istore_n 3, 1)) (hn : jnl l2 = true) (k : jV cc own d X b (pc + 1) (l0 :: l1 :: l2 :: some (.int x) :: r) st h) : jV cc own d X b pc (l0 :: l1 :: l2 :: z :: r) (.int x :: st) h := eg_istore_n hd (by show 3 < List.length _; simp only [List.length_cons]; omega) (jn_at (i := 2) rfl hn) k
theorem e_as3 {l0 l1 l2 : Option Value} {z : Option Value} {x : Nat} (hd : decode cc pc = .ok (.astore_n 3, 1)) (hn : jnl l2 = true) (k : jV cc own d X b (pc + 1) (l0 :: l1 :: l2 :: some (.ref x) :: r) st h) : jV cc own d X b pc (l0 :: l1 :: l2 :: z :: r) (.ref x :: st) h := eg_astore_n hd (by show 3 < List.length _; simp only [List.length_cons]; omega) (jn_at (i := 2) rfl hn) k
theorem e_inc3 {l0 l1 l2 : Option Value} {n : Int} {x : Int32} (c : Int32) (hd : decode cc pc = .ok (.iinc 3 n, 3)) (hc : Int32.ofInt n = c) (hn : jnl l2 = true) (k : jV cc own d X b (pc + 3) (l0 :: l1 :: l2 :: some (.int (x + c)) :: r) st h) : jV cc own d X b pc (l0 :: l1 :: l2 :: some (.int x) :: r) st h := eg_iinc (v := x + c) hd rfl (by rw [hc]) (jn_at (i := 2) rfl hn) k
theorem e_il4 {l0 l1 l2 l3 : Option Value} {x : Int32} (hd : decode cc pc = .ok (.iload 4, 2)) (k : jV cc own d X b (pc + 2) (l0 :: l1 :: l2 :: l3 :: some (.int x) :: r) (.int x :: st) h) : jV cc own d X b pc (l0 :: l1 :: l2 :: l3 :: some (.int x) :: r) st h := eg_iload hd rfl k
theorem e_al4 {l0 l1 l2 l3 : Option Value} {x : Nat} (hd : decode cc pc = .ok (.aload 4, 2)) (k : jV cc own d X b (pc + 2) (l0 :: l1 :: l2 :: l3 :: some (.ref x) :: r) (.ref x :: st) h) : jV cc own d X b pc (l0 :: l1 :: l2 :: l3 :: some (.ref x) :: r) st h := eg_aload hd rfl k
theorem e_is4 {l0 l1 l2 l3 : Option Value} {z : Option Value} {x : Int32} (hd : decode cc pc = .ok (.istore 4, 2)) (hn : jnl l3 = true) (k : jV cc own d X b (pc + 2) (l0 :: l1 :: l2 :: l3 :: some (.int x) :: r) st h) : jV cc own d X b pc (l0 :: l1 :: l2 :: l3 :: z :: r) (.int x :: st) h := eg_istore hd (by show 4 < List.length _; simp only [List.length_cons]; omega) (jn_at (i := 3) rfl hn) k
theorem e_as4 {l0 l1 l2 l3 : Option Value} {z : Option Value} {x : Nat} (hd : decode cc pc = .ok (.astore 4, 2)) (hn : jnl l3 = true) (k : jV cc own d X b (pc + 2) (l0 :: l1 :: l2 :: l3 :: some (.ref x) :: r) st h) : jV cc own d X b pc (l0 :: l1 :: l2 :: l3 :: z :: r) (.ref x :: st) h := eg_astore hd (by show 4 < List.length _; simp only [List.length_cons]; omega) (jn_at (i := 3) rfl hn) k
theorem e_inc4 {l0 l1 l2 l3 : Option Value} {n : Int} {x : Int32} (c : Int32) (hd : decode cc pc = .ok (.iinc 4 n, 3)) (hc : Int32.ofInt n = c) (hn : jnl l3 = true) (k : jV cc own d X b (pc + 3) (l0 :: l1 :: l2 :: l3 :: some (.int (x + c)) :: r) st h) : jV cc own d X b pc (l0 :: l1 :: l2 :: l3 :: some (.int x) :: r) st h := eg_iinc (v := x + c) hd rfl (by rw [hc]) (jn_at (i := 3) rfl hn) k
theorem e_ll4 {l0 l1 l2 l3 : Option Value} {x : Int64} (hd : decode cc pc = .ok (.lload 4, 2)) (k : jV cc own d X b (pc + 2) (l0 :: l1 :: l2 :: l3 :: some (.long x) :: r) (.long x :: st) h) : jV cc own d X b pc (l0 :: l1 :: l2 :: l3 :: some (.long x) :: r) st h := eg_lload hd rfl k
theorem e_ls4 {l0 l1 l2 l3 : Option Value} {z z2 : Option Value} {x : Int64} (hd : decode cc pc = .ok (.lstore 4, 2)) (hn : jnl l3 = true) (k : jV cc own d X b (pc + 2) (l0 :: l1 :: l2 :: l3 :: some (.long x) :: none :: r) st h) : jV cc own d X b pc (l0 :: l1 :: l2 :: l3 :: z :: z2 :: r) (.long x :: st) h := eg_lstore hd (by show 4 + 1 < List.length _; simp only [List.length_cons]; omega) (jn_at (i := 3) rfl hn) k
theorem e_il5 {l0 l1 l2 l3 l4 : Option Value} {x : Int32} (hd : decode cc pc = .ok (.iload 5, 2)) (k : jV cc own d X b (pc + 2) (l0 :: l1 :: l2 :: l3 :: l4 :: some (.int x) :: r) (.int x :: st) h) : jV cc own d X b pc (l0 :: l1 :: l2 :: l3 :: l4 :: some (.int x) :: r) st h := eg_iload hd rfl k
theorem e_al5 {l0 l1 l2 l3 l4 : Option Value} {x : Nat} (hd : decode cc pc = .ok (.aload 5, 2)) (k : jV cc own d X b (pc + 2) (l0 :: l1 :: l2 :: l3 :: l4 :: some (.ref x) :: r) (.ref x :: st) h) : jV cc own d X b pc (l0 :: l1 :: l2 :: l3 :: l4 :: some (.ref x) :: r) st h := eg_aload hd rfl k
theorem e_is5 {l0 l1 l2 l3 l4 : Option Value} {z : Option Value} {x : Int32} (hd : decode cc pc = .ok (.istore 5, 2)) (hn : jnl l4 = true) (k : jV cc own d X b (pc + 2) (l0 :: l1 :: l2 :: l3 :: l4 :: some (.int x) :: r) st h) : jV cc own d X b pc (l0 :: l1 :: l2 :: l3 :: l4 :: z :: r) (.int x :: st) h := eg_istore hd (by show 5 < List.length _; simp only [List.length_cons]; omega) (jn_at (i := 4) rfl hn) k
theorem e_as5 {l0 l1 l2 l3 l4 : Option Value} {z : Option Value} {x : Nat} (hd : decode cc pc = .ok (.astore 5, 2)) (hn : jnl l4 = true) (k : jV cc own d X b (pc + 2) (l0 :: l1 :: l2 :: l3 :: l4 :: some (.ref x) :: r) st h) : jV cc own d X b pc (l0 :: l1 :: l2 :: l3 :: l4 :: z :: r) (.ref x :: st) h := eg_astore hd (by show 5 < List.length _; simp only [List.length_cons]; omega) (jn_at (i := 4) rfl hn) k
theorem e_inc5 {l0 l1 l2 l3 l4 : Option Value} {n : Int} {x : Int32} (c : Int32) (hd : decode cc pc = .ok (.iinc 5 n, 3)) (hc : Int32.ofInt n = c) (hn : jnl l4 = true) (k : jV cc own d X b (pc + 3) (l0 :: l1 :: l2 :: l3 :: l4 :: some (.int (x + c)) :: r) st h) : jV cc own d X b pc (l0 :: l1 :: l2 :: l3 :: l4 :: some (.int x) :: r) st h := eg_iinc (v := x + c) hd rfl (by rw [hc]) (jn_at (i := 4) rfl hn) k
theorem e_ll5 {l0 l1 l2 l3 l4 : Option Value} {x : Int64} (hd : decode cc pc = .ok (.lload 5, 2)) (k : jV cc own d X b (pc + 2) (l0 :: l1 :: l2 :: l3 :: l4 :: some (.long x) :: r) (.long x :: st) h) : jV cc own d X b pc (l0 :: l1 :: l2 :: l3 :: l4 :: some (.long x) :: r) st h := eg_lload hd rfl k
theorem e_ls5 {l0 l1 l2 l3 l4 : Option Value} {z z2 : Option Value} {x : Int64} (hd : decode cc pc = .ok (.lstore 5, 2)) (hn : jnl l4 = true) (k : jV cc own d X b (pc + 2) (l0 :: l1 :: l2 :: l3 :: l4 :: some (.long x) :: none :: r) st h) : jV cc own d X b pc (l0 :: l1 :: l2 :: l3 :: l4 :: z :: z2 :: r) (.long x :: st) h := eg_lstore hd (by show 5 + 1 < List.length _; simp only [List.length_cons]; omega) (jn_at (i := 4) rfl hn) k
theorem e_il6 {l0 l1 l2 l3 l4 l5 : Option Value} {x : Int32} (hd : decode cc pc = .ok (.iload 6, 2)) (k : jV cc own d X b (pc + 2) (l0 :: l1 :: l2 :: l3 :: l4 :: l5 :: some (.int x) :: r) (.int x :: st) h) : jV cc own d X b pc (l0 :: l1 :: l2 :: l3 :: l4 :: l5 :: some (.int x) :: r) st h := eg_iload hd rfl k
theorem e_al6 {l0 l1 l2 l3 l4 l5 : Option Value} {x : Nat} (hd : decode cc pc = .ok (.aload 6, 2)) (k : jV cc own d X b (pc + 2) (l0 :: l1 :: l2 :: l3 :: l4 :: l5 :: some (.ref x) :: r) (.ref x :: st) h) : jV cc own d X b pc (l0 :: l1 :: l2 :: l3 :: l4 :: l5 :: some (.ref x) :: r) st h := eg_aload hd rfl k
theorem e_is6 {l0 l1 l2 l3 l4 l5 : Option Value} {z : Option Value} {x : Int32} (hd : decode cc pc = .ok (.istore 6, 2)) (hn : jnl l5 = true) (k : jV cc own d X b (pc + 2) (l0 :: l1 :: l2 :: l3 :: l4 :: l5 :: some (.int x) :: r) st h) : jV cc own d X b pc (l0 :: l1 :: l2 :: l3 :: l4 :: l5 :: z :: r) (.int x :: st) h := eg_istore hd (by show 6 < List.length _; simp only [List.length_cons]; omega) (jn_at (i := 5) rfl hn) k
theorem e_as6 {l0 l1 l2 l3 l4 l5 : Option Value} {z : Option Value} {x : Nat} (hd : decode cc pc = .ok (.astore 6, 2)) (hn : jnl l5 = true) (k : jV cc own d X b (pc + 2) (l0 :: l1 :: l2 :: l3 :: l4 :: l5 :: some (.ref x) :: r) st h) : jV cc own d X b pc (l0 :: l1 :: l2 :: l3 :: l4 :: l5 :: z :: r) (.ref x :: st) h := eg_astore hd (by show 6 < List.length _; simp only [List.length_cons]; omega) (jn_at (i := 5) rfl hn) k
theorem e_inc6 {l0 l1 l2 l3 l4 l5 : Option Value} {n : Int} {x : Int32} (c : Int32) (hd : decode cc pc = .ok (.iinc 6 n, 3)) (hc : Int32.ofInt n = c) (hn : jnl l5 = true) (k : jV cc own d X b (pc + 3) (l0 :: l1 :: l2 :: l3 :: l4 :: l5 :: some (.int (x + c)) :: r) st h) : jV cc own d X b pc (l0 :: l1 :: l2 :: l3 :: l4 :: l5 :: some (.int x) :: r) st h := eg_iinc (v := x + c) hd rfl (by rw [hc]) (jn_at (i := 5) rfl hn) k
theorem e_ll6 {l0 l1 l2 l3 l4 l5 : Option Value} {x : Int64} (hd : decode cc pc = .ok (.lload 6, 2)) (k : jV cc own d X b (pc + 2) (l0 :: l1 :: l2 :: l3 :: l4 :: l5 :: some (.long x) :: r) (.long x :: st) h) : jV cc own d X b pc (l0 :: l1 :: l2 :: l3 :: l4 :: l5 :: some (.long x) :: r) st h := eg_lload hd rfl k
theorem e_ls6 {l0 l1 l2 l3 l4 l5 : Option Value} {z z2 : Option Value} {x : Int64} (hd : decode cc pc = .ok (.lstore 6, 2)) (hn : jnl l5 = true) (k : jV cc own d X b (pc + 2) (l0 :: l1 :: l2 :: l3 :: l4 :: l5 :: some (.long x) :: none :: r) st h) : jV cc own d X b pc (l0 :: l1 :: l2 :: l3 :: l4 :: l5 :: z :: z2 :: r) (.long x :: st) h := eg_lstore hd (by show 6 + 1 < List.length _; simp only [List.length_cons]; omega) (jn_at (i := 5) rfl hn) k
theorem e_il7 {l0 l1 l2 l3 l4 l5 l6 : Option Value} {x : Int32} (hd : decode cc pc = .ok (.iload 7, 2)) (k : jV cc own d X b (pc + 2) (l0 :: l1 :: l2 :: l3 :: l4 :: l5 :: l6 :: some (.int x) :: r) (.int x :: st) h) : jV cc own d X b pc (l0 :: l1 :: l2 :: l3 :: l4 :: l5 :: l6 :: some (.int x) :: r) st h := eg_iload hd rfl k
theorem e_al7 {l0 l1 l2 l3 l4 l5 l6 : Option Value} {x : Nat} (hd : decode cc pc = .ok (.aload 7, 2)) (k : jV cc own d X b (pc + 2) (l0 :: l1 :: l2 :: l3 :: l4 :: l5 :: l6 :: some (.ref x) :: r) (.ref x :: st) h) : jV cc own d X b pc (l0 :: l1 :: l2 :: l3 :: l4 :: l5 :: l6 :: some (.ref x) :: r) st h := eg_aload hd rfl k
theorem e_is7 {l0 l1 l2 l3 l4 l5 l6 : Option Value} {z : Option Value} {x : Int32} (hd : decode cc pc = .ok (.istore 7, 2)) (hn : jnl l6 = true) (k : jV cc own d X b (pc + 2) (l0 :: l1 :: l2 :: l3 :: l4 :: l5 :: l6 :: some (.int x) :: r) st h) : jV cc own d X b pc (l0 :: l1 :: l2 :: l3 :: l4 :: l5 :: l6 :: z :: r) (.int x :: st) h := eg_istore hd (by show 7 < List.length _; simp only [List.length_cons]; omega) (jn_at (i := 6) rfl hn) k
theorem e_as7 {l0 l1 l2 l3 l4 l5 l6 : Option Value} {z : Option Value} {x : Nat} (hd : decode cc pc = .ok (.astore 7, 2)) (hn : jnl l6 = true) (k : jV cc own d X b (pc + 2) (l0 :: l1 :: l2 :: l3 :: l4 :: l5 :: l6 :: some (.ref x) :: r) st h) : jV cc own d X b pc (l0 :: l1 :: l2 :: l3 :: l4 :: l5 :: l6 :: z :: r) (.ref x :: st) h := eg_astore hd (by show 7 < List.length _; simp only [List.length_cons]; omega) (jn_at (i := 6) rfl hn) k
theorem e_inc7 {l0 l1 l2 l3 l4 l5 l6 : Option Value} {n : Int} {x : Int32} (c : Int32) (hd : decode cc pc = .ok (.iinc 7 n, 3)) (hc : Int32.ofInt n = c) (hn : jnl l6 = true) (k : jV cc own d X b (pc + 3) (l0 :: l1 :: l2 :: l3 :: l4 :: l5 :: l6 :: some (.int (x + c)) :: r) st h) : jV cc own d X b pc (l0 :: l1 :: l2 :: l3 :: l4 :: l5 :: l6 :: some (.int x) :: r) st h := eg_iinc (v := x + c) hd rfl (by rw [hc]) (jn_at (i := 6) rfl hn) k
theorem e_ll7 {l0 l1 l2 l3 l4 l5 l6 : Option Value} {x : Int64} (hd : decode cc pc = .ok (.lload 7, 2)) (k : jV cc own d X b (pc + 2) (l0 :: l1 :: l2 :: l3 :: l4 :: l5 :: l6 :: some (.long x) :: r) (.long x :: st) h) : jV cc own d X b pc (l0 :: l1 :: l2 :: l3 :: l4 :: l5 :: l6 :: some (.long x) :: r) st h := eg_lload hd rfl k
theorem e_ls7 {l0 l1 l2 l3 l4 l5 l6 : Option Value} {z z2 : Option Value} {x : Int64} (hd : decode cc pc = .ok (.lstore 7, 2)) (hn : jnl l6 = true) (k : jV cc own d X b (pc + 2) (l0 :: l1 :: l2 :: l3 :: l4 :: l5 :: l6 :: some (.long x) :: none :: r) st h) : jV cc own d X b pc (l0 :: l1 :: l2 :: l3 :: l4 :: l5 :: l6 :: z :: z2 :: r) (.long x :: st) h := eg_lstore hd (by show 7 + 1 < List.length _; simp only [List.length_cons]; omega) (jn_at (i := 6) rfl hn) k
theorem e_il8 {l0 l1 l2 l3 l4 l5 l6 l7 : Option Value} {x : Int32} (hd : decode cc pc = .ok (.iload 8, 2)) (k : jV cc own d X b (pc + 2) (l0 :: l1 :: l2 :: l3 :: l4 :: l5 :: l6 :: l7 :: some (.int x) :: r) (.int x :: st) h) : jV cc own d X b pc (l0 :: l1 :: l2 :: l3 :: l4 :: l5 :: l6 :: l7 :: some (.int x) :: r) st h := eg_iload hd rfl k
theorem e_al8 {l0 l1 l2 l3 l4 l5 l6 l7 : Option Value} {x : Nat} (hd : decode cc pc = .ok (.aload 8, 2)) (k : jV cc own d X b (pc + 2) (l0 :: l1 :: l2 :: l3 :: l4 :: l5 :: l6 :: l7 :: some (.ref x) :: r) (.ref x :: st) h) : jV cc own d X b pc (l0 :: l1 :: l2 :: l3 :: l4 :: l5 :: l6 :: l7 :: some (.ref x) :: r) st h := eg_aload hd rfl k
theorem e_is8 {l0 l1 l2 l3 l4 l5 l6 l7 : Option Value} {z : Option Value} {x : Int32} (hd : decode cc pc = .ok (.istore 8, 2)) (hn : jnl l7 = true) (k : jV cc own d X b (pc + 2) (l0 :: l1 :: l2 :: l3 :: l4 :: l5 :: l6 :: l7 :: some (.int x) :: r) st h) : jV cc own d X b pc (l0 :: l1 :: l2 :: l3 :: l4 :: l5 :: l6 :: l7 :: z :: r) (.int x :: st) h := eg_istore hd (by show 8 < List.length _; simp only [List.length_cons]; omega) (jn_at (i := 7) rfl hn) k
theorem e_as8 {l0 l1 l2 l3 l4 l5 l6 l7 : Option Value} {z : Option Value} {x : Nat} (hd : decode cc pc = .ok (.astore 8, 2)) (hn : jnl l7 = true) (k : jV cc own d X b (pc + 2) (l0 :: l1 :: l2 :: l3 :: l4 :: l5 :: l6 :: l7 :: some (.ref x) :: r) st h) : jV cc own d X b pc (l0 :: l1 :: l2 :: l3 :: l4 :: l5 :: l6 :: l7 :: z :: r) (.ref x :: st) h := eg_astore hd (by show 8 < List.length _; simp only [List.length_cons]; omega) (jn_at (i := 7) rfl hn) k
theorem e_inc8 {l0 l1 l2 l3 l4 l5 l6 l7 : Option Value} {n : Int} {x : Int32} (c : Int32) (hd : decode cc pc = .ok (.iinc 8 n, 3)) (hc : Int32.ofInt n = c) (hn : jnl l7 = true) (k : jV cc own d X b (pc + 3) (l0 :: l1 :: l2 :: l3 :: l4 :: l5 :: l6 :: l7 :: some (.int (x + c)) :: r) st h) : jV cc own d X b pc (l0 :: l1 :: l2 :: l3 :: l4 :: l5 :: l6 :: l7 :: some (.int x) :: r) st h := eg_iinc (v := x + c) hd rfl (by rw [hc]) (jn_at (i := 7) rfl hn) k
theorem e_ll8 {l0 l1 l2 l3 l4 l5 l6 l7 : Option Value} {x : Int64} (hd : decode cc pc = .ok (.lload 8, 2)) (k : jV cc own d X b (pc + 2) (l0 :: l1 :: l2 :: l3 :: l4 :: l5 :: l6 :: l7 :: some (.long x) :: r) (.long x :: st) h) : jV cc own d X b pc (l0 :: l1 :: l2 :: l3 :: l4 :: l5 :: l6 :: l7 :: some (.long x) :: r) st h := eg_lload hd rfl k
theorem e_ls8 {l0 l1 l2 l3 l4 l5 l6 l7 : Option Value} {z z2 : Option Value} {x : Int64} (hd : decode cc pc = .ok (.lstore 8, 2)) (hn : jnl l7 = true) (k : jV cc own d X b (pc + 2) (l0 :: l1 :: l2 :: l3 :: l4 :: l5 :: l6 :: l7 :: some (.long x) :: none :: r) st h) : jV cc own d X b pc (l0 :: l1 :: l2 :: l3 :: l4 :: l5 :: l6 :: l7 :: z :: z2 :: r) (.long x :: st) h := eg_lstore hd (by show 8 + 1 < List.length _; simp only [List.length_cons]; omega) (jn_at (i := 7) rfl hn) k
theorem e_il9 {l0 l1 l2 l3 l4 l5 l6 l7 l8 : Option Value} {x : Int32} (hd : decode cc pc = .ok (.iload 9, 2)) (k : jV cc own d X b (pc + 2) (l0 :: l1 :: l2 :: l3 :: l4 :: l5 :: l6 :: l7 :: l8 :: some (.int x) :: r) (.int x :: st) h) : jV cc own d X b pc (l0 :: l1 :: l2 :: l3 :: l4 :: l5 :: l6 :: l7 :: l8 :: some (.int x) :: r) st h := eg_iload hd rfl k
theorem e_al9 {l0 l1 l2 l3 l4 l5 l6 l7 l8 : Option Value} {x : Nat} (hd : decode cc pc = .ok (.aload 9, 2)) (k : jV cc own d X b (pc + 2) (l0 :: l1 :: l2 :: l3 :: l4 :: l5 :: l6 :: l7 :: l8 :: some (.ref x) :: r) (.ref x :: st) h) : jV cc own d X b pc (l0 :: l1 :: l2 :: l3 :: l4 :: l5 :: l6 :: l7 :: l8 :: some (.ref x) :: r) st h := eg_aload hd rfl k
theorem e_is9 {l0 l1 l2 l3 l4 l5 l6 l7 l8 : Option Value} {z : Option Value} {x : Int32} (hd : decode cc pc = .ok (.istore 9, 2)) (hn : jnl l8 = true) (k : jV cc own d X b (pc + 2) (l0 :: l1 :: l2 :: l3 :: l4 :: l5 :: l6 :: l7 :: l8 :: some (.int x) :: r) st h) : jV cc own d X b pc (l0 :: l1 :: l2 :: l3 :: l4 :: l5 :: l6 :: l7 :: l8 :: z :: r) (.int x :: st) h := eg_istore hd (by show 9 < List.length _; simp only [List.length_cons]; omega) (jn_at (i := 8) rfl hn) k
theorem e_as9 {l0 l1 l2 l3 l4 l5 l6 l7 l8 : Option Value} {z : Option Value} {x : Nat} (hd : decode cc pc = .ok (.astore 9, 2)) (hn : jnl l8 = true) (k : jV cc own d X b (pc + 2) (l0 :: l1 :: l2 :: l3 :: l4 :: l5 :: l6 :: l7 :: l8 :: some (.ref x) :: r) st h) : jV cc own d X b pc (l0 :: l1 :: l2 :: l3 :: l4 :: l5 :: l6 :: l7 :: l8 :: z :: r) (.ref x :: st) h := eg_astore hd (by show 9 < List.length _; simp only [List.length_cons]; omega) (jn_at (i := 8) rfl hn) k
theorem e_inc9 {l0 l1 l2 l3 l4 l5 l6 l7 l8 : Option Value} {n : Int} {x : Int32} (c : Int32) (hd : decode cc pc = .ok (.iinc 9 n, 3)) (hc : Int32.ofInt n = c) (hn : jnl l8 = true) (k : jV cc own d X b (pc + 3) (l0 :: l1 :: l2 :: l3 :: l4 :: l5 :: l6 :: l7 :: l8 :: some (.int (x + c)) :: r) st h) : jV cc own d X b pc (l0 :: l1 :: l2 :: l3 :: l4 :: l5 :: l6 :: l7 :: l8 :: some (.int x) :: r) st h := eg_iinc (v := x + c) hd rfl (by rw [hc]) (jn_at (i := 8) rfl hn) k
theorem e_ll9 {l0 l1 l2 l3 l4 l5 l6 l7 l8 : Option Value} {x : Int64} (hd : decode cc pc = .ok (.lload 9, 2)) (k : jV cc own d X b (pc + 2) (l0 :: l1 :: l2 :: l3 :: l4 :: l5 :: l6 :: l7 :: l8 :: some (.long x) :: r) (.long x :: st) h) : jV cc own d X b pc (l0 :: l1 :: l2 :: l3 :: l4 :: l5 :: l6 :: l7 :: l8 :: some (.long x) :: r) st h := eg_lload hd rfl k
theorem e_ls9 {l0 l1 l2 l3 l4 l5 l6 l7 l8 : Option Value} {z z2 : Option Value} {x : Int64} (hd : decode cc pc = .ok (.lstore 9, 2)) (hn : jnl l8 = true) (k : jV cc own d X b (pc + 2) (l0 :: l1 :: l2 :: l3 :: l4 :: l5 :: l6 :: l7 :: l8 :: some (.long x) :: none :: r) st h) : jV cc own d X b pc (l0 :: l1 :: l2 :: l3 :: l4 :: l5 :: l6 :: l7 :: l8 :: z :: z2 :: r) (.long x :: st) h := eg_lstore hd (by show 9 + 1 < List.length _; simp only [List.length_cons]; omega) (jn_at (i := 8) rfl hn) k
theorem e_il10 {l0 l1 l2 l3 l4 l5 l6 l7 l8 l9 : Option Value} {x : Int32} (hd : decode cc pc = .ok (.iload 10, 2)) (k : jV cc own d X b (pc + 2) (l0 :: l1 :: l2 :: l3 :: l4 :: l5 :: l6 :: l7 :: l8 :: l9 :: some (.int x) :: r) (.int x :: st) h) : jV cc own d X b pc (l0 :: l1 :: l2 :: l3 :: l4 :: l5 :: l6 :: l7 :: l8 :: l9 :: some (.int x) :: r) st h := eg_iload hd rfl k
theorem e_al10 {l0 l1 l2 l3 l4 l5 l6 l7 l8 l9 : Option Value} {x : Nat} (hd : decode cc pc = .ok (.aload 10, 2)) (k : jV cc own d X b (pc + 2) (l0 :: l1 :: l2 :: l3 :: l4 :: l5 :: l6 :: l7 :: l8 :: l9 :: some (.ref x) :: r) (.ref x :: st) h) : jV cc own d X b pc (l0 :: l1 :: l2 :: l3 :: l4 :: l5 :: l6 :: l7 :: l8 :: l9 :: some (.ref x) :: r) st h := eg_aload hd rfl k
theorem e_is10 {l0 l1 l2 l3 l4 l5 l6 l7 l8 l9 : Option Value} {z : Option Value} {x : Int32} (hd : decode cc pc = .ok (.istore 10, 2)) (hn : jnl l9 = true) (k : jV cc own d X b (pc + 2) (l0 :: l1 :: l2 :: l3 :: l4 :: l5 :: l6 :: l7 :: l8 :: l9 :: some (.int x) :: r) st h) : jV cc own d X b pc (l0 :: l1 :: l2 :: l3 :: l4 :: l5 :: l6 :: l7 :: l8 :: l9 :: z :: r) (.int x :: st) h := eg_istore hd (by show 10 < List.length _; simp only [List.length_cons]; omega) (jn_at (i := 9) rfl hn) k
theorem e_as10 {l0 l1 l2 l3 l4 l5 l6 l7 l8 l9 : Option Value} {z : Option Value} {x : Nat} (hd : decode cc pc = .ok (.astore 10, 2)) (hn : jnl l9 = true) (k : jV cc own d X b (pc + 2) (l0 :: l1 :: l2 :: l3 :: l4 :: l5 :: l6 :: l7 :: l8 :: l9 :: some (.ref x) :: r) st h) : jV cc own d X b pc (l0 :: l1 :: l2 :: l3 :: l4 :: l5 :: l6 :: l7 :: l8 :: l9 :: z :: r) (.ref x :: st) h := eg_astore hd (by show 10 < List.length _; simp only [List.length_cons]; omega) (jn_at (i := 9) rfl hn) k
theorem e_inc10 {l0 l1 l2 l3 l4 l5 l6 l7 l8 l9 : Option Value} {n : Int} {x : Int32} (c : Int32) (hd : decode cc pc = .ok (.iinc 10 n, 3)) (hc : Int32.ofInt n = c) (hn : jnl l9 = true) (k : jV cc own d X b (pc + 3) (l0 :: l1 :: l2 :: l3 :: l4 :: l5 :: l6 :: l7 :: l8 :: l9 :: some (.int (x + c)) :: r) st h) : jV cc own d X b pc (l0 :: l1 :: l2 :: l3 :: l4 :: l5 :: l6 :: l7 :: l8 :: l9 :: some (.int x) :: r) st h := eg_iinc (v := x + c) hd rfl (by rw [hc]) (jn_at (i := 9) rfl hn) k
theorem e_ll10 {l0 l1 l2 l3 l4 l5 l6 l7 l8 l9 : Option Value} {x : Int64} (hd : decode cc pc = .ok (.lload 10, 2)) (k : jV cc own d X b (pc + 2) (l0 :: l1 :: l2 :: l3 :: l4 :: l5 :: l6 :: l7 :: l8 :: l9 :: some (.long x) :: r) (.long x :: st) h) : jV cc own d X b pc (l0 :: l1 :: l2 :: l3 :: l4 :: l5 :: l6 :: l7 :: l8 :: l9 :: some (.long x) :: r) st h := eg_lload hd rfl k
theorem e_ls10 {l0 l1 l2 l3 l4 l5 l6 l7 l8 l9 : Option Value} {z z2 : Option Value} {x : Int64} (hd : decode cc pc = .ok (.lstore 10, 2)) (hn : jnl l9 = true) (k : jV cc own d X b (pc + 2) (l0 :: l1 :: l2 :: l3 :: l4 :: l5 :: l6 :: l7 :: l8 :: l9 :: some (.long x) :: none :: r) st h) : jV cc own d X b pc (l0 :: l1 :: l2 :: l3 :: l4 :: l5 :: l6 :: l7 :: l8 :: l9 :: z :: z2 :: r) (.long x :: st) h := eg_lstore hd (by show 10 + 1 < List.length _; simp only [List.length_cons]; omega) (jn_at (i := 9) rfl hn) k
theorem e_il11 {l0 l1 l2 l3 l4 l5 l6 l7 l8 l9 l10 : Option Value} {x : Int32} (hd : decode cc pc = .ok (.iload 11, 2)) (k : jV cc own d X b (pc + 2) (l0 :: l1 :: l2 :: l3 :: l4 :: l5 :: l6 :: l7 :: l8 :: l9 :: l10 :: some (.int x) :: r) (.int x :: st) h) : jV cc own d X b pc (l0 :: l1 :: l2 :: l3 :: l4 :: l5 :: l6 :: l7 :: l8 :: l9 :: l10 :: some (.int x) :: r) st h := eg_iload hd rfl k
theorem e_al11 {l0 l1 l2 l3 l4 l5 l6 l7 l8 l9 l10 : Option Value} {x : Nat} (hd : decode cc pc = .ok (.aload 11, 2)) (k : jV cc own d X b (pc + 2) (l0 :: l1 :: l2 :: l3 :: l4 :: l5 :: l6 :: l7 :: l8 :: l9 :: l10 :: some (.ref x) :: r) (.ref x :: st) h) : jV cc own d X b pc (l0 :: l1 :: l2 :: l3 :: l4 :: l5 :: l6 :: l7 :: l8 :: l9 :: l10 :: some (.ref x) :: r) st h := eg_aload hd rfl k
theorem e_is11 {l0 l1 l2 l3 l4 l5 l6 l7 l8 l9 l10 : Option Value} {z : Option Value} {x : Int32} (hd : decode cc pc = .ok (.istore 11, 2)) (hn : jnl l10 = true) (k : jV cc own d X b (pc + 2) (l0 :: l1 :: l2 :: l3 :: l4 :: l5 :: l6 :: l7 :: l8 :: l9 :: l10 :: some (.int x) :: r) st h) : jV cc own d X b pc (l0 :: l1 :: l2 :: l3 :: l4 :: l5 :: l6 :: l7 :: l8 :: l9 :: l10 :: z :: r) (.int x :: st) h := eg_istore hd (by show 11 < List.length _; simp only [List.length_cons]; omega) (jn_at (i := 10) rfl hn) k
theorem e_as11 {l0 l1 l2 l3 l4 l5 l6 l7 l8 l9 l10 : Option Value} {z : Option Value} {x : Nat} (hd : decode cc pc = .ok (.astore 11, 2)) (hn : jnl l10 = true) (k : jV cc own d X b (pc + 2) (l0 :: l1 :: l2 :: l3 :: l4 :: l5 :: l6 :: l7 :: l8 :: l9 :: l10 :: some (.ref x) :: r) st h) : jV cc own d X b pc (l0 :: l1 :: l2 :: l3 :: l4 :: l5 :: l6 :: l7 :: l8 :: l9 :: l10 :: z :: r) (.ref x :: st) h := eg_astore hd (by show 11 < List.length _; simp only [List.length_cons]; omega) (jn_at (i := 10) rfl hn) k
theorem e_inc11 {l0 l1 l2 l3 l4 l5 l6 l7 l8 l9 l10 : Option Value} {n : Int} {x : Int32} (c : Int32) (hd : decode cc pc = .ok (.iinc 11 n, 3)) (hc : Int32.ofInt n = c) (hn : jnl l10 = true) (k : jV cc own d X b (pc + 3) (l0 :: l1 :: l2 :: l3 :: l4 :: l5 :: l6 :: l7 :: l8 :: l9 :: l10 :: some (.int (x + c)) :: r) st h) : jV cc own d X b pc (l0 :: l1 :: l2 :: l3 :: l4 :: l5 :: l6 :: l7 :: l8 :: l9 :: l10 :: some (.int x) :: r) st h := eg_iinc (v := x + c) hd rfl (by rw [hc]) (jn_at (i := 10) rfl hn) k
theorem e_ll11 {l0 l1 l2 l3 l4 l5 l6 l7 l8 l9 l10 : Option Value} {x : Int64} (hd : decode cc pc = .ok (.lload 11, 2)) (k : jV cc own d X b (pc + 2) (l0 :: l1 :: l2 :: l3 :: l4 :: l5 :: l6 :: l7 :: l8 :: l9 :: l10 :: some (.long x) :: r) (.long x :: st) h) : jV cc own d X b pc (l0 :: l1 :: l2 :: l3 :: l4 :: l5 :: l6 :: l7 :: l8 :: l9 :: l10 :: some (.long x) :: r) st h := eg_lload hd rfl k
theorem e_ls11 {l0 l1 l2 l3 l4 l5 l6 l7 l8 l9 l10 : Option Value} {z z2 : Option Value} {x : Int64} (hd : decode cc pc = .ok (.lstore 11, 2)) (hn : jnl l10 = true) (k : jV cc own d X b (pc + 2) (l0 :: l1 :: l2 :: l3 :: l4 :: l5 :: l6 :: l7 :: l8 :: l9 :: l10 :: some (.long x) :: none :: r) st h) : jV cc own d X b pc (l0 :: l1 :: l2 :: l3 :: l4 :: l5 :: l6 :: l7 :: l8 :: l9 :: l10 :: z :: z2 :: r) (.long x :: st) h := eg_lstore hd (by show 11 + 1 < List.length _; simp only [List.length_cons]; omega) (jn_at (i := 10) rfl hn) k
theorem e_il12 {l0 l1 l2 l3 l4 l5 l6 l7 l8 l9 l10 l11 : Option Value} {x : Int32} (hd : decode cc pc = .ok (.iload 12, 2)) (k : jV cc own d X b (pc + 2) (l0 :: l1 :: l2 :: l3 :: l4 :: l5 :: l6 :: l7 :: l8 :: l9 :: l10 :: l11 :: some (.int x) :: r) (.int x :: st) h) : jV cc own d X b pc (l0 :: l1 :: l2 :: l3 :: l4 :: l5 :: l6 :: l7 :: l8 :: l9 :: l10 :: l11 :: some (.int x) :: r) st h := eg_iload hd rfl k
theorem e_al12 {l0 l1 l2 l3 l4 l5 l6 l7 l8 l9 l10 l11 : Option Value} {x : Nat} (hd : decode cc pc = .ok (.aload 12, 2)) (k : jV cc own d X b (pc + 2) (l0 :: l1 :: l2 :: l3 :: l4 :: l5 :: l6 :: l7 :: l8 :: l9 :: l10 :: l11 :: some (.ref x) :: r) (.ref x :: st) h) : jV cc own d X b pc (l0 :: l1 :: l2 :: l3 :: l4 :: l5 :: l6 :: l7 :: l8 :: l9 :: l10 :: l11 :: some (.ref x) :: r) st h := eg_aload hd rfl k
theorem e_is12 {l0 l1 l2 l3 l4 l5 l6 l7 l8 l9 l10 l11 : Option Value} {z : Option Value} {x : Int32} (hd : decode cc pc = .ok (.istore 12, 2)) (hn : jnl l11 = true) (k : jV cc own d X b (pc + 2) (l0 :: l1 :: l2 :: l3 :: l4 :: l5 :: l6 :: l7 :: l8 :: l9 :: l10 :: l11 :: some (.int x) :: r) st h) : jV cc own d X b pc (l0 :: l1 :: l2 :: l3 :: l4 :: l5 :: l6 :: l7 :: l8 :: l9 :: l10 :: l11 :: z :: r) (.int x :: st) h := eg_istore hd (by show 12 < List.length _; simp only [List.length_cons]; omega) (jn_at (i := 11) rfl hn) k
theorem e_as12 {l0 l1 l2 l3 l4 l5 l6 l7 l8 l9 l10 l11 : Option Value} {z : Option Value} {x : Nat} (hd : decode cc pc = .ok (.astore 12, 2)) (hn : jnl l11 = true) (k : jV cc own d X b (pc + 2) (l0 :: l1 :: l2 :: l3 :: l4 :: l5 :: l6 :: l7 :: l8 :: l9 :: l10 :: l11 :: some (.ref x) :: r) st h) : jV cc own d X b pc (l0 :: l1 :: l2 :: l3 :: l4 :: l5 :: l6 :: l7 :: l8 :: l9 :: l10 :: l11 :: z :: r) (.ref x :: st) h := eg_astore hd (by show 12 < List.length _; simp only [List.length_cons]; omega) (jn_at (i := 11) rfl hn) k
theorem e_inc12 {l0 l1 l2 l3 l4 l5 l6 l7 l8 l9 l10 l11 : Option Value} {n : Int} {x : Int32} (c : Int32) (hd : decode cc pc = .ok (.iinc 12 n, 3)) (hc : Int32.ofInt n = c) (hn : jnl l11 = true) (k : jV cc own d X b (pc + 3) (l0 :: l1 :: l2 :: l3 :: l4 :: l5 :: l6 :: l7 :: l8 :: l9 :: l10 :: l11 :: some (.int (x + c)) :: r) st h) : jV cc own d X b pc (l0 :: l1 :: l2 :: l3 :: l4 :: l5 :: l6 :: l7 :: l8 :: l9 :: l10 :: l11 :: some (.int x) :: r) st h := eg_iinc (v := x + c) hd rfl (by rw [hc]) (jn_at (i := 11) rfl hn) k
theorem e_ll12 {l0 l1 l2 l3 l4 l5 l6 l7 l8 l9 l10 l11 : Option Value} {x : Int64} (hd : decode cc pc = .ok (.lload 12, 2)) (k : jV cc own d X b (pc + 2) (l0 :: l1 :: l2 :: l3 :: l4 :: l5 :: l6 :: l7 :: l8 :: l9 :: l10 :: l11 :: some (.long x) :: r) (.long x :: st) h) : jV cc own d X b pc (l0 :: l1 :: l2 :: l3 :: l4 :: l5 :: l6 :: l7 :: l8 :: l9 :: l10 :: l11 :: some (.long x) :: r) st h := eg_lload hd rfl k
theorem e_ls12 {l0 l1 l2 l3 l4 l5 l6 l7 l8 l9 l10 l11 : Option Value} {z z2 : Option Value} {x : Int64} (hd : decode cc pc = .ok (.lstore 12, 2)) (hn : jnl l11 = true) (k : jV cc own d X b (pc + 2) (l0 :: l1 :: l2 :: l3 :: l4 :: l5 :: l6 :: l7 :: l8 :: l9 :: l10 :: l11 :: some (.long x) :: none :: r) st h) : jV cc own d X b pc (l0 :: l1 :: l2 :: l3 :: l4 :: l5 :: l6 :: l7 :: l8 :: l9 :: l10 :: l11 :: z :: z2 :: r) (.long x :: st) h := eg_lstore hd (by show 12 + 1 < List.length _; simp only [List.length_cons]; omega) (jn_at (i := 11) rfl hn) k
theorem e_il13 {l0 l1 l2 l3 l4 l5 l6 l7 l8 l9 l10 l11 l12 : Option Value} {x : Int32} (hd : decode cc pc = .ok (.iload 13, 2)) (k : jV cc own d X b (pc + 2) (l0 :: l1 :: l2 :: l3 :: l4 :: l5 :: l6 :: l7 :: l8 :: l9 :: l10 :: l11 :: l12 :: some (.int x) :: r) (.int x :: st) h) : jV cc own d X b pc (l0 :: l1 :: l2 :: l3 :: l4 :: l5 :: l6 :: l7 :: l8 :: l9 :: l10 :: l11 :: l12 :: some (.int x) :: r) st h := eg_iload hd rfl k
theorem e_al13 {l0 l1 l2 l3 l4 l5 l6 l7 l8 l9 l10 l11 l12 : Option Value} {x : Nat} (hd : decode cc pc = .ok (.aload 13, 2)) (k : jV cc own d X b (pc + 2) (l0 :: l1 :: l2 :: l3 :: l4 :: l5 :: l6 :: l7 :: l8 :: l9 :: l10 :: l11 :: l12 :: some (.ref x) :: r) (.ref x :: st) h) : jV cc own d X b pc (l0 :: l1 :: l2 :: l3 :: l4 :: l5 :: l6 :: l7 :: l8 :: l9 :: l10 :: l11 :: l12 :: some (.ref x) :: r) st h := eg_aload hd rfl k
theorem e_is13 {l0 l1 l2 l3 l4 l5 l6 l7 l8 l9 l10 l11 l12 : Option Value} {z : Option Value} {x : Int32} (hd : decode cc pc = .ok (.istore 13, 2)) (hn : jnl l12 = true) (k : jV cc own d X b (pc + 2) (l0 :: l1 :: l2 :: l3 :: l4 :: l5 :: l6 :: l7 :: l8 :: l9 :: l10 :: l11 :: l12 :: some (.int x) :: r) st h) : jV cc own d X b pc (l0 :: l1 :: l2 :: l3 :: l4 :: l5 :: l6 :: l7 :: l8 :: l9 :: l10 :: l11 :: l12 :: z :: r) (.int x :: st) h := eg_istore hd (by show 13 < List.length _; simp only [List.length_cons]; omega) (jn_at (i := 12) rfl hn) k
theorem e_as13 {l0 l1 l2 l3 l4 l5 l6 l7 l8 l9 l10 l11 l12 : Option Value} {z : Option Value} {x : Nat} (hd : decode cc pc = .ok (.astore 13, 2)) (hn : jnl l12 = true) (k : jV cc own d X b (pc + 2) (l0 :: l1 :: l2 :: l3 :: l4 :: l5 :: l6 :: l7 :: l8 :: l9 :: l10 :: l11 :: l12 :: some (.ref x) :: r) st h) : jV cc own d X b pc (l0 :: l1 :: l2 :: l3 :: l4 :: l5 :: l6 :: l7 :: l8 :: l9 :: l10 :: l11 :: l12 :: z :: r) (.ref x :: st) h := eg_astore hd (by show 13 < List.length _; simp only [List.length_cons]; omega) (jn_at (i := 12) rfl hn) k
theorem e_inc13 {l0 l1 l2 l3 l4 l5 l6 l7 l8 l9 l10 l11 l12 : Option Value} {n : Int} {x : Int32} (c : Int32) (hd : decode cc pc = .ok (.iinc 13 n, 3)) (hc : Int32.ofInt n = c) (hn : jnl l12 = true) (k : jV cc own d X b (pc + 3) (l0 :: l1 :: l2 :: l3 :: l4 :: l5 :: l6 :: l7 :: l8 :: l9 :: l10 :: l11 :: l12 :: some (.int (x + c)) :: r) st h) : jV cc own d X b pc (l0 :: l1 :: l2 :: l3 :: l4 :: l5 :: l6 :: l7 :: l8 :: l9 :: l10 :: l11 :: l12 :: some (.int x) :: r) st h := eg_iinc (v := x + c) hd rfl (by rw [hc]) (jn_at (i := 12) rfl hn) k
theorem e_ll13 {l0 l1 l2 l3 l4 l5 l6 l7 l8 l9 l10 l11 l12 : Option Value} {x : Int64} (hd : decode cc pc = .ok (.lload 13, 2)) (k : jV cc own d X b (pc + 2) (l0 :: l1 :: l2 :: l3 :: l4 :: l5 :: l6 :: l7 :: l8 :: l9 :: l10 :: l11 :: l12 :: some (.long x) :: r) (.long x :: st) h) : jV cc own d X b pc (l0 :: l1 :: l2 :: l3 :: l4 :: l5 :: l6 :: l7 :: l8 :: l9 :: l10 :: l11 :: l12 :: some (.long x) :: r) st h := eg_lload hd rfl k
theorem e_ls13 {l0 l1 l2 l3 l4 l5 l6 l7 l8 l9 l10 l11 l12 : Option Value} {z z2 : Option Value} {x : Int64} (hd : decode cc pc = .ok (.lstore 13, 2)) (hn : jnl l12 = true) (k : jV cc own d X b (pc + 2) (l0 :: l1 :: l2 :: l3 :: l4 :: l5 :: l6 :: l7 :: l8 :: l9 :: l10 :: l11 :: l12 :: some (.long x) :: none :: r) st h) : jV cc own d X b pc (l0 :: l1 :: l2 :: l3 :: l4 :: l5 :: l6 :: l7 :: l8 :: l9 :: l10 :: l11 :: l12 :: z :: z2 :: r) (.long x :: st) h := eg_lstore hd (by show 13 + 1 < List.length _; simp only [List.length_cons]; omega) (jn_at (i := 12) rfl hn) k
theorem e_il14 {l0 l1 l2 l3 l4 l5 l6 l7 l8 l9 l10 l11 l12 l13 : Option Value} {x : Int32} (hd : decode cc pc = .ok (.iload 14, 2)) (k : jV cc own d X b (pc + 2) (l0 :: l1 :: l2 :: l3 :: l4 :: l5 :: l6 :: l7 :: l8 :: l9 :: l10 :: l11 :: l12 :: l13 :: some (.int x) :: r) (.int x :: st) h) : jV cc own d X b pc (l0 :: l1 :: l2 :: l3 :: l4 :: l5 :: l6 :: l7 :: l8 :: l9 :: l10 :: l11 :: l12 :: l13 :: some (.int x) :: r) st h := eg_iload hd rfl k
theorem e_al14 {l0 l1 l2 l3 l4 l5 l6 l7 l8 l9 l10 l11 l12 l13 : Option Value} {x : Nat} (hd : decode cc pc = .ok (.aload 14, 2)) (k : jV cc own d X b (pc + 2) (l0 :: l1 :: l2 :: l3 :: l4 :: l5 :: l6 :: l7 :: l8 :: l9 :: l10 :: l11 :: l12 :: l13 :: some (.ref x) :: r) (.ref x :: st) h) : jV cc own d X b pc (l0 :: l1 :: l2 :: l3 :: l4 :: l5 :: l6 :: l7 :: l8 :: l9 :: l10 :: l11 :: l12 :: l13 :: some (.ref x) :: r) st h := eg_aload hd rfl k
theorem e_is14 {l0 l1 l2 l3 l4 l5 l6 l7 l8 l9 l10 l11 l12 l13 : Option Value} {z : Option Value} {x : Int32} (hd : decode cc pc = .ok (.istore 14, 2)) (hn : jnl l13 = true) (k : jV cc own d X b (pc + 2) (l0 :: l1 :: l2 :: l3 :: l4 :: l5 :: l6 :: l7 :: l8 :: l9 :: l10 :: l11 :: l12 :: l13 :: some (.int x) :: r) st h) : jV cc own d X b pc (l0 :: l1 :: l2 :: l3 :: l4 :: l5 :: l6 :: l7 :: l8 :: l9 :: l10 :: l11 :: l12 :: l13 :: z :: r) (.int x :: st) h := eg_istore hd (by show 14 < List.length _; simp only [List.length_cons]; omega) (jn_at (i := 13) rfl hn) k
theorem e_as14 {l0 l1 l2 l3 l4 l5 l6 l7 l8 l9 l10 l11 l12 l13 : Option Value} {z : Option Value} {x : Nat} (hd : decode cc pc = .ok (.astore 14, 2)) (hn : jnl l13 = true) (k : jV cc own d X b (pc + 2) (l0 :: l1 :: l2 :: l3 :: l4 :: l5 :: l6 :: l7 :: l8 :: l9 :: l10 :: l11 :: l12 :: l13 :: some (.ref x) :: r) st h) : jV cc own d X b pc (l0 :: l1 :: l2 :: l3 :: l4 :: l5 :: l6 :: l7 :: l8 :: l9 :: l10 :: l11 :: l12 :: l13 :: z :: r) (.ref x :: st) h := eg_astore hd (by show 14 < List.length _; simp only [List.length_cons]; omega) (jn_at (i := 13) rfl hn) k
theorem e_inc14 {l0 l1 l2 l3 l4 l5 l6 l7 l8 l9 l10 l11 l12 l13 : Option Value} {n : Int} {x : Int32} (c : Int32) (hd : decode cc pc = .ok (.iinc 14 n, 3)) (hc : Int32.ofInt n = c) (hn : jnl l13 = true) (k : jV cc own d X b (pc + 3) (l0 :: l1 :: l2 :: l3 :: l4 :: l5 :: l6 :: l7 :: l8 :: l9 :: l10 :: l11 :: l12 :: l13 :: some (.int (x + c)) :: r) st h) : jV cc own d X b pc (l0 :: l1 :: l2 :: l3 :: l4 :: l5 :: l6 :: l7 :: l8 :: l9 :: l10 :: l11 :: l12 :: l13 :: some (.int x) :: r) st h := eg_iinc (v := x + c) hd rfl (by rw [hc]) (jn_at (i := 13) rfl hn) k
theorem e_ll14 {l0 l1 l2 l3 l4 l5 l6 l7 l8 l9 l10 l11 l12 l13 : Option Value} {x : Int64} (hd : decode cc pc = .ok (.lload 14, 2)) (k : jV cc own d X b (pc + 2) (l0 :: l1 :: l2 :: l3 :: l4 :: l5 :: l6 :: l7 :: l8 :: l9 :: l10 :: l11 :: l12 :: l13 :: some (.long x) :: r) (.long x :: st) h) : jV cc own d X b pc (l0 :: l1 :: l2 :: l3 :: l4 :: l5 :: l6 :: l7 :: l8 :: l9 :: l10 :: l11 :: l12 :: l13 :: some (.long x) :: r) st h := eg_lload hd rfl k
theorem e_ls14 {l0 l1 l2 l3 l4 l5 l6 l7 l8 l9 l10 l11 l12 l13 : Option Value} {z z2 : Option Value} {x : Int64} (hd : decode cc pc = .ok (.lstore 14, 2)) (hn : jnl l13 = true) (k : jV cc own d X b (pc + 2) (l0 :: l1 :: l2 :: l3 :: l4 :: l5 :: l6 :: l7 :: l8 :: l9 :: l10 :: l11 :: l12 :: l13 :: some (.long x) :: none :: r) st h) : jV cc own d X b pc (l0 :: l1 :: l2 :: l3 :: l4 :: l5 :: l6 :: l7 :: l8 :: l9 :: l10 :: l11 :: l12 :: l13 :: z :: z2 :: r) (.long x :: st) h := eg_lstore hd (by show 14 + 1 < List.length _; simp only [List.length_cons]; omega) (jn_at (i := 13) rfl hn) k
theorem e_il15 {l0 l1 l2 l3 l4 l5 l6 l7 l8 l9 l10 l11 l12 l13 l14 : Option Value} {x : Int32} (hd : decode cc pc = .ok (.iload 15, 2)) (k : jV cc own d X b (pc + 2) (l0 :: l1 :: l2 :: l3 :: l4 :: l5 :: l6 :: l7 :: l8 :: l9 :: l10 :: l11 :: l12 :: l13 :: l14 :: some (.int x) :: r) (.int x :: st) h) : jV cc own d X b pc (l0 :: l1 :: l2 :: l3 :: l4 :: l5 :: l6 :: l7 :: l8 :: l9 :: l10 :: l11 :: l12 :: l13 :: l14 :: some (.int x) :: r) st h := eg_iload hd rfl k
theorem e_al15 {l0 l1 l2 l3 l4 l5 l6 l7 l8 l9 l10 l11 l12 l13 l14 : Option Value} {x : Nat} (hd : decode cc pc = .ok (.aload 15, 2)) (k : jV cc own d X b (pc + 2) (l0 :: l1 :: l2 :: l3 :: l4 :: l5 :: l6 :: l7 :: l8 :: l9 :: l10 :: l11 :: l12 :: l13 :: l14 :: some (.ref x) :: r) (.ref x :: st) h) : jV cc own d X b pc (l0 :: l1 :: l2 :: l3 :: l4 :: l5 :: l6 :: l7 :: l8 :: l9 :: l10 :: l11 :: l12 :: l13 :: l14 :: some (.ref x) :: r) st h := eg_aload hd rfl k
theorem e_is15 {l0 l1 l2 l3 l4 l5 l6 l7 l8 l9 l10 l11 l12 l13 l14 : Option Value} {z : Option Value} {x : Int32} (hd : decode cc pc = .ok (.istore 15, 2)) (hn : jnl l14 = true) (k : jV cc own d X b (pc + 2) (l0 :: l1 :: l2 :: l3 :: l4 :: l5 :: l6 :: l7 :: l8 :: l9 :: l10 :: l11 :: l12 :: l13 :: l14 :: some (.int x) :: r) st h) : jV cc own d X b pc (l0 :: l1 :: l2 :: l3 :: l4 :: l5 :: l6 :: l7 :: l8 :: l9 :: l10 :: l11 :: l12 :: l13 :: l14 :: z :: r) (.int x :: st) h := eg_istore hd (by show 15 < List.length _; simp only [List.length_cons]; omega) (jn_at (i := 14) rfl hn) k
theorem e_as15 {l0 l1 l2 l3 l4 l5 l6 l7 l8 l9 l10 l11 l12 l13 l14 : Option Value} {z : Option Value} {x : Nat} (hd : decode cc pc = .ok (.astore 15, 2)) (hn : jnl l14 = true) (k : jV cc own d X b (pc + 2) (l0 :: l1 :: l2 :: l3 :: l4 :: l5 :: l6 :: l7 :: l8 :: l9 :: l10 :: l11 :: l12 :: l13 :: l14 :: some (.ref x) :: r) st h) : jV cc own d X b pc (l0 :: l1 :: l2 :: l3 :: l4 :: l5 :: l6 :: l7 :: l8 :: l9 :: l10 :: l11 :: l12 :: l13 :: l14 :: z :: r) (.ref x :: st) h := eg_astore hd (by show 15 < List.length _; simp only [List.length_cons]; omega) (jn_at (i := 14) rfl hn) k
theorem e_inc15 {l0 l1 l2 l3 l4 l5 l6 l7 l8 l9 l10 l11 l12 l13 l14 : Option Value} {n : Int} {x : Int32} (c : Int32) (hd : decode cc pc = .ok (.iinc 15 n, 3)) (hc : Int32.ofInt n = c) (hn : jnl l14 = true) (k : jV cc own d X b (pc + 3) (l0 :: l1 :: l2 :: l3 :: l4 :: l5 :: l6 :: l7 :: l8 :: l9 :: l10 :: l11 :: l12 :: l13 :: l14 :: some (.int (x + c)) :: r) st h) : jV cc own d X b pc (l0 :: l1 :: l2 :: l3 :: l4 :: l5 :: l6 :: l7 :: l8 :: l9 :: l10 :: l11 :: l12 :: l13 :: l14 :: some (.int x) :: r) st h := eg_iinc (v := x + c) hd rfl (by rw [hc]) (jn_at (i := 14) rfl hn) k
theorem e_ll15 {l0 l1 l2 l3 l4 l5 l6 l7 l8 l9 l10 l11 l12 l13 l14 : Option Value} {x : Int64} (hd : decode cc pc = .ok (.lload 15, 2)) (k : jV cc own d X b (pc + 2) (l0 :: l1 :: l2 :: l3 :: l4 :: l5 :: l6 :: l7 :: l8 :: l9 :: l10 :: l11 :: l12 :: l13 :: l14 :: some (.long x) :: r) (.long x :: st) h) : jV cc own d X b pc (l0 :: l1 :: l2 :: l3 :: l4 :: l5 :: l6 :: l7 :: l8 :: l9 :: l10 :: l11 :: l12 :: l13 :: l14 :: some (.long x) :: r) st h := eg_lload hd rfl k
theorem e_ls15 {l0 l1 l2 l3 l4 l5 l6 l7 l8 l9 l10 l11 l12 l13 l14 : Option Value} {z z2 : Option Value} {x : Int64} (hd : decode cc pc = .ok (.lstore 15, 2)) (hn : jnl l14 = true) (k : jV cc own d X b (pc + 2) (l0 :: l1 :: l2 :: l3 :: l4 :: l5 :: l6 :: l7 :: l8 :: l9 :: l10 :: l11 :: l12 :: l13 :: l14 :: some (.long x) :: none :: r) st h) : jV cc own d X b pc (l0 :: l1 :: l2 :: l3 :: l4 :: l5 :: l6 :: l7 :: l8 :: l9 :: l10 :: l11 :: l12 :: l13 :: l14 :: z :: z2 :: r) (.long x :: st) h := eg_lstore hd (by show 15 + 1 < List.length _; simp only [List.length_cons]; omega) (jn_at (i := 14) rfl hn) k
end JP
