/-! THE CLAIM OUT OF ONE WALK OF THE LAW'S BODY. Your part is whole_start (and what it stands on); all else here is the same for every law, but numbers. -/
def R_law : String := "BellowsWordsLaw"
def lw_P (b : Addr) (xs : List Int32) (args : Array Value) (s : State) : Prop := args = #[.ref b] ∧ s.IntsAt b xs ∧ xs.length ≤ 384 ∧ (Jvm.Cond.and given_1 narrow_1).before args s = true
def lw_Q (_ : Array Value) (s : State) (o : Outcome) (t : State) : Prop := o = .returned (some (.int 1)) ∧ Framed s o t [] 600000 7302250
def lw_Z (below : List Frame) (a : Array Value) (s : State) : State → Prop := fun t => ∃ o, t.status = .running ∧ Ended t below o ∧ lw_Q a s o t
/-- the law's own end, with 1 on the stack, nothing written that was there before, its room as the claim has it -/
theorem lw_ret {p : Program} {l : Launch} {e : Env} {s : State} {m : MethodId} {below : List Frame} {meth : Method} {c : Code} {b : Nat} (hx : p.tables.exec = Jvm.exec) (hb : c.code = code) (hr : meth.sig.returnType = ret) (hlocks : meth.locks = false) {pc : Nat} {H : Heap} {ls : Array Slot} (hdg : decode code pc = .ok (.ireturn, 1)) : W p l e room_1 s m #[Value.ref b] below meth c H [] 600000 7302250 (lw_Z below #[Value.ref b] s) (F0 m pc ls [.int 1]) := by
  intro T hT X
  obtain ⟨fs, hret, hrun, hended, hW, hframe⟩ := X.leave (v := some (.int 1)) (hlocks := hlocks) (fun h => by rw [hr] at h; cases h)
  have hmeth' : T.vm.method? m = some meth := X.method'
  refine ⟨T.setFrames fs, ?_, .returned (some (.int 1)), hrun, hended, rfl, ⟨_, rfl⟩, hW, hframe⟩
  jvm_step X.here [X.here.top, hx, hb, hdg, hmeth', hr, ret, narrow_b1]
  (try refine ⟨rfl, ?_⟩); (try refine ⟨rfl, ?_⟩)
  first | (intro acts; rw [hret _ acts rfl rfl rfl]) | rw [hret _ _ rfl rfl rfl]
  exact Steps.refl _
/-- what holds at the law's entry: the machine, the code, the tables' words (any of lw_tbl by 'hts w (by decide +kernel)'), the script of L ints xs at the cell b, what the Statement gives of the start (any of its parts by flat_of_before) -/
def lw_At (p : Program) (s : State) (m : MethodId) (meth : Method) (c : Code) (b L : Nat) (xs : Nat → Int32) : Prop :=
  p.tables.exec = Jvm.exec ∧ c.code = code ∧ meth.sig.returnType = ret ∧ c.maxLocals = 4 ∧ s.vm.findClass R_law = some m.cls ∧ (∀ w ∈ lw_tbl, w.before #[Value.ref b] s = true) ∧ va_X b L xs s s.heap ∧ b < s.heap.size ∧ meth.locks = false ∧ (Jvm.Cond.and given_1 narrow_1).before #[Value.ref b] s = true
/-- the law's own X: the script lies at 2000 -/
def jLw (X : jX) (b L : Nat) (xs : Nat → Int32) : Prop := match X with
  | (_, g, _, _, R, s, _, args, below, meth, _, Q) => R = room_1 ∧ args = #[Value.ref b] ∧ Q = lw_Z below #[Value.ref b] s ∧ meth.sig.returnType = ret ∧ g.2.1 2000 = b ∧ va_X b L xs s s.heap ∧ b < s.heap.size ∧ g.1 = s.heap.size
section JLAW
variable {cc : ByteArray} {own : String} {d : Nat} {X : jX} {b : jB} {pc : Nat} {ls : List (Option Value)} {st : List Value} {h : jH} {bb L : Nat} {xs : Nat → Int32}
theorem e_slen (hw : jLw X bb L xs) (hd : decode cc pc = .ok (.arraylength, 1)) (k : jV cc own d X b (pc + 1) ls (.int (nI L) :: st) h) : jV cc own d X b pc ls (.ref 2000 :: st) h := by
  obtain ⟨l, g, p, e, R, s, m, args, below, meth, c, Q⟩ := X
  obtain ⟨w1, w2, w3, w4, w5, w6, w7, w8⟩ := hw
  intro ok H locs a k' n' h1 h2 hR hz hS hL
  have e1 : jval g (.ref 2000) = .ref bb := by
    show Value.ref (jad g 2000) = _
    simp only [jad]
    rw [if_neg (by omega), w5]
  rw [List.map_cons, e1]
  exact va_slen ok.1 ok.2.1 w6 w7 (show ¬ g.1 ≤ bb by omega) hS hd (k ok H locs a k' n' h1 h2 hR hz hS hL)
theorem e_sld (hw : jLw X bb L xs) (hd : decode cc pc = .ok (.iaload, 1)) {i : Nat} (hi : i < L) (hL2 : L < 2 ^ 31) (k : jV cc own d X b (pc + 1) ls (.int (xs i) :: st) h) : jV cc own d X b pc ls (.int (nI i) :: .ref 2000 :: st) h := by
  obtain ⟨l, g, p, e, R, s, m, args, below, meth, c, Q⟩ := X
  obtain ⟨w1, w2, w3, w4, w5, w6, w7, w8⟩ := hw
  intro ok H locs a k' n' h1 h2 hR hz hS hL
  have e1 : jval g (.ref 2000) = .ref bb := by
    show Value.ref (jad g 2000) = _
    simp only [jad]
    rw [if_neg (by omega), w5]
  have kk := k ok H locs a k' n' h1 h2 hR hz hS hL
  rw [List.map_cons, List.map_cons, e1]
  refine va_sld ok.1 ok.2.1 w6 w7 (show ¬ g.1 ≤ bb by omega) hS (vp_in_nI hi hL2) hd ?_
  rw [nI_clamp (by omega)]
  exact kk
theorem e_lret (hw : jLw X bb L xs) (hd : decode code pc = .ok (.ireturn, 1)) : jV code own d X none pc ls [.int (nI 1)] h := by
  obtain ⟨l, g, p, e, R, s, m, args, below, meth, c, Q⟩ := X
  obtain ⟨w1, w2, w3, w4, w5, w6, w7, w8⟩ := hw
  intro ok H locs a k' n' h1 h2 hR hz hS hL
  subst w1
  subst w2
  subst w3
  refine va_forget (fun q hq => by have := hS.2.2 q hq; unfold jA at this; omega) ?_
  refine W.widen (k := 600000) (n := 7302250) (by have : k' + 0 ≤ 600000 := h1; omega) (by have : n' + 0 ≤ 7302250 := h2; omega) ?_
  exact lw_ret ok.1 ok.2.1 w4 ok.2.2.2.2.1 hd
end JLAW
theorem nI6 (i : Nat) : nI i + 6 = nI (i + 6) := by
  show nI i + nI 6 = _
  rw [nI_add]
