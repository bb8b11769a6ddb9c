/-! rows of the judgement: statics, making, calls, returns -/
section JS
variable {cc : ByteArray} {own : String} {d : Nat} {X : jX} {b : jB} {pc : Nat} {ls : List (Option Value)} {st : List Value} {h : jH}
theorem e_gets {i : Nat} (j : Nat) {q : String × String × Nat × List Int32} (hd : decode cc pc = .ok (.getstatic i, 3)) (hq : jtabs[j]? = some q) (hl : Cond.fieldLink own i q.1 q.2.1 "[I" ∈ jT) (k : jV cc own d X b (pc + 3) ls (.ref (1000 + j) :: st) h) : jV cc own d X b pc ls st h := by
  obtain ⟨l, g, p, e, R, s, m, args, below, meth, c, Q⟩ := X
  intro ok H locs a k' n' h1 h2 hR hz hS hL
  have e1 : jval g (.ref (1000 + j)) = .ref (g.2.1 (1000 + j)) := by
    show Value.ref (jad g (1000 + j)) = _
    simp only [jad]
    rw [if_neg (by omega)]
  have kk := k ok H locs a k' n' h1 h2 hR hz hS hL
  rw [List.map_cons, e1] at kk
  exact va_gets ok.1 ok.2.1 (ok.2.2.2.2.2.2.2.2.1 j q hq).1 hS ok.2.2.1 (ok.2.2.2.1 _ hl) (fun x hx => hx) hd kk
theorem e_sald (j : Nat) {q : String × String × Nat × List Int32} {i : Int32} (hd : decode cc pc = .ok (.iaload, 1)) (hq : jtabs[j]? = some q) (hi : vp_in i q.2.2.1) (k : jV cc own d X b (pc + 1) ls (.int (q.2.2.2.getD i.toNatClampNeg 0) :: st) h) : jV cc own d X b pc ls (.int i :: .ref (1000 + j) :: st) h := by
  obtain ⟨l, g, p, e, R, s, m, args, below, meth, c, Q⟩ := X
  intro ok H locs a k' n' h1 h2 hR hz hS hL
  have e1 : jval g (.ref (1000 + j)) = .ref (g.2.1 (1000 + j)) := by
    show Value.ref (jad g (1000 + j)) = _
    simp only [jad]
    rw [if_neg (by omega)]
  have kk := k ok H locs a k' n' h1 h2 hR hz hS hL
  rw [List.map_cons, List.map_cons, e1]
  exact va_ti ok.1 ok.2.1 (ok.2.2.2.2.2.2.2.2.1 j q hq).2 hS hi rfl hd kk
/-- System.arraycopy between two int arrays -/
theorem e_copy {i a0 a1 n0 n1 : Nat} {f f1 : Nat → Int32} {sp dp n : Int32} (hd : decode cc pc = .ok (.invokestatic i, 3)) (hl : Cond.methodLink own i arraycopyName ∈ jT) (hw : Cond.native arraycopyName ∈ jT ∧ Cond.static arraycopyName ∈ jT ∧ Cond.initialized "java/lang/System" ∈ jT) (hc0 : h[a0]? = some (jI n0 f)) (hc1 : h[a1]? = some (jI n1 f1))
    (q1 : ¬ sp < 0) (q2 : ¬ dp < 0) (q3 : ¬ n < 0) (q4 : sp.toNatClampNeg + n.toNatClampNeg ≤ n0) (q5 : dp.toNatClampNeg + n.toNatClampNeg ≤ n1) (hdd : 1 ≤ d) (hsum : (st.map fun v => v.category).sum ≤ 8)
    (k : jV cc own d X none (pc + 3) ls st (h.set a1 (jI n1 (va_cpy f f1 sp.toNatClampNeg dp.toNatClampNeg n.toNatClampNeg)))) : jV cc own d X none pc ls (.int n :: .int dp :: .ref a1 :: .int sp :: .ref a0 :: st) h := by
  obtain ⟨l, g, p, e, R, s, m, args, below, meth, c, Q⟩ := X
  intro ok H locs a k' n' h1 h2 hR hz hS hL
  have hfr : 1 ≤ R.frames := Nat.le_trans hdd ok.2.2.2.2.2.1
  have hlo : 64 ≤ R.locals := Nat.le_trans (by omega) ok.2.2.2.2.2.2.1
  have hs2 : ((st.map (jval g)).map fun v => v.category).sum ≤ 8 := by
    rw [List.map_map]
    have : (fun v => (v : Value).category) ∘ jval g = fun v => v.category := by funext v; exact jval_cat g v
    rw [this]; exact hsum
  refine va_copyi (ty := .int) ok.1 ok.2.1 (by rw [hL.2.1]) ok.2.2.1 (ok.2.2.2.1 _ hl) (ok.2.2.2.1 _ hw.1) (ok.2.2.2.1 _ hw.2.1) (ok.2.2.2.1 _ hw.2.2) ok.2.2.2.2.2.2.2.1 hR.2 (jws_D hR.1) hS a0 a1 0 0 (jws_at hc0) (jws_at hc1) rfl rfl rfl q1 q2 q3 q4 q5 (fun i _ => rfl) hfr ?_ hd (fun H1 locs1 w1 w2 w3 => ?_)
  · have e0 : nativeFrameWords "java/lang/System" "arraycopy" 5 + 11 ≤ 56 := by decide +kernel
    omega
  · have e1 : (jws g h).set a1 (jad g a1, .inl (g.2.2.2.1, n1, .inl (va_cpy f f1 sp.toNatClampNeg dp.toNatClampNeg n.toNatClampNeg))) = jws g (h.set a1 (jI n1 (va_cpy f f1 sp.toNatClampNeg dp.toNatClampNeg n.toNatClampNeg))) := jws_set (c := jI n1 (va_cpy f f1 sp.toNatClampNeg dp.toNatClampNeg n.toNatClampNeg))
    rw [e1] at w1
    exact k ok H1 locs1 a k' n' h1 h2 ⟨by simp; exact hR.1, w1⟩ (fun z => by cases z) w3 hL
/-- Object's constructor -/
theorem e_obj {i o : Nat} (hd : decode cc pc = .ok (.invokespecial i, 3)) (hl : Cond.methodLink own i Lib.objectInit ∈ jT) (hw : Cond.instanceMethod Lib.objectInit ∈ jT ∧ Cond.code Lib.objectInit ⟨#[0xb1]⟩ 1 none ∈ jT) (hdd : 1 ≤ d) (hsum : (st.map fun v => v.category).sum ≤ 8)
    (k : jV cc own d X b (pc + 3) ls st h) : jV cc own d X b pc ls (.ref o :: st) h := by
  obtain ⟨l, g, p, e, R, s, m, args, below, meth, c, Q⟩ := X
  intro ok H locs a k' n' h1 h2 hR hz hS hL
  have hfr : 1 ≤ R.frames := Nat.le_trans hdd ok.2.2.2.2.2.1
  have hlo : 64 ≤ R.locals := Nat.le_trans (by omega) ok.2.2.2.2.2.2.1
  have hs2 : ((st.map (jval g)).map fun v => v.category).sum ≤ 8 := by
    rw [List.map_map]
    have : (fun v => (v : Value).category) ∘ jval g = fun v => v.category := by funext v; exact jval_cat g v
    rw [this]; exact hsum
  refine W.objInit ok.1 ok.2.1 ok.2.2.1 (ok.2.2.2.1 _ hl) (ok.2.2.2.1 _ hw.1) (ok.2.2.2.1 _ hw.2) rfl (by show a.size = _; rw [hL.2.1]) rfl hd hfr ?_ (k ok H locs a k' n' h1 h2 hR hz hS hL)
  show 2 * 0 + _ + 12 ≤ _
  omega
theorem e_newa {n : Int32} {N K M : Nat} (hd : decode cc pc = .ok (.newarray .int, 2)) (ha : Cond.arrayClass .int ∈ jT) (hn : ¬ n < 0) (hN : n.toNatClampNeg = N) (hN2 : N ≤ 100000) (hl : h.length < 1000)
    (k : jV cc own d X (some (K, M)) (pc + 2) ls (.ref h.length :: st) (h ++ [jI N (fun _ => 0)])) : jV cc own d X (some (K + 1, M + N)) pc ls (.int n :: st) h := by
  obtain ⟨l, g, p, e, R, s, m, args, below, meth, c, Q⟩ := X
  intro ok H locs a k' n' h1 h2 hR hz hS hL
  have hk : k' + (K + 1) ≤ R.cells := h1
  have hm : n' + (M + N) ≤ R.slots := h2
  have hz := hz rfl
  refine va_newaK (atype := .int) ok.1 ok.2.1 (ok.2.2.2.1 _ ha) rfl hd rfl hn hN (by show N * 4 ≤ _; omega) (by omega) (by omega) rfl fun H1 cA e1 z1 o1 hAr hNm => ?_
  have hcA : cA = g.2.2.2.1 := by
    have := (ok.2.2.2.2.2.2.2.1.2 0 _ rfl).2
    exact Option.some.inj (hNm.symm.trans this)
  subst hcA
  have e2 : jval g (.ref h.length) = .ref H.size := by
    show Value.ref (jad g h.length) = _
    simp only [jad]
    rw [if_pos hl, hz]
  have kk := k ok H1 locs a (k' + 1) (n' + N) (by show k' + 1 + K ≤ _; omega) (by show n' + N + M ≤ _; omega) (jRep_push (c := jI N (fun _ => 0)) hR hl hz e1 o1) (fun _ => by rw [z1, hz]; simp; omega) ⟨Nat.le_trans hS.1 (by omega), fun x q1 q2 => (o1 x (Nat.lt_of_lt_of_le q1 hS.1)).trans (hS.2.1 x q1 q2), hS.2.2⟩ hL
  rw [List.map_cons, e2] at kk
  exact kk
theorem e_newz {n : Int32} {N K M : Nat} (hd : decode cc pc = .ok (.newarray .boolean, 2)) (ha : Cond.arrayClass .boolean ∈ jT) (hn : ¬ n < 0) (hN : n.toNatClampNeg = N) (hN2 : N ≤ 100000) (hl : h.length < 1000)
    (k : jV cc own d X (some (K, M)) (pc + 2) ls (.ref h.length :: st) (h ++ [jZ N (fun _ => 0)])) : jV cc own d X (some (K + 1, M + N)) pc ls (.int n :: st) h := by
  obtain ⟨l, g, p, e, R, s, m, args, below, meth, c, Q⟩ := X
  intro ok H locs a k' n' h1 h2 hR hz hS hL
  have hk : k' + (K + 1) ≤ R.cells := h1
  have hm : n' + (M + N) ≤ R.slots := h2
  have hz := hz rfl
  refine va_newaK (atype := .boolean) ok.1 ok.2.1 (ok.2.2.2.1 _ ha) rfl hd rfl hn hN (by show N * 1 ≤ _; omega) (by omega) (by omega) rfl fun H1 cA e1 z1 o1 hAr hNm => ?_
  have hcA : cA = g.2.2.2.2.1 := by
    have := (ok.2.2.2.2.2.2.2.1.2 1 _ rfl).2
    exact Option.some.inj (hNm.symm.trans this)
  subst hcA
  have e2 : jval g (.ref h.length) = .ref H.size := by
    show Value.ref (jad g h.length) = _
    simp only [jad]
    rw [if_pos hl, hz]
  have kk := k ok H1 locs a (k' + 1) (n' + N) (by show k' + 1 + K ≤ _; omega) (by show n' + N + M ≤ _; omega) (jRep_push (c := jZ N (fun _ => 0)) hR hl hz e1 o1) (fun _ => by rw [z1, hz]; simp; omega) ⟨Nat.le_trans hS.1 (by omega), fun x q1 q2 => (o1 x (Nat.lt_of_lt_of_le q1 hS.1)).trans (hS.2.1 x q1 q2), hS.2.2⟩ hL
  rw [List.map_cons, e2] at kk
  exact kk
theorem e_newr {i : Nat} {n : Int32} {N K M : Nat} (hd : decode cc pc = .ok (.anewarray i, 3)) (hc : Cond.classLink own i "BellowsWords$House" ∈ jT) (hn : ¬ n < 0) (hN : n.toNatClampNeg = N) (hN2 : N ≤ 100000) (hl : h.length < 1000)
    (k : jV cc own d X (some (K, M)) (pc + 3) ls (.ref h.length :: st) (h ++ [jR N (fun _ => none)])) : jV cc own d X (some (K + 1, M + N)) pc ls (.int n :: st) h := by
  obtain ⟨l, g, p, e, R, s, m, args, below, meth, c, Q⟩ := X
  intro ok H locs a k' n' h1 h2 hR hz hS hL
  have hk : k' + (K + 1) ≤ R.cells := h1
  have hm : n' + (M + N) ≤ R.slots := h2
  subst hN
  replace hz := hz rfl
  refine W.anew ok.1 ok.2.1 ok.2.2.1 (ok.2.2.2.1 _ hc) (va_AO.use ok.2.2.2.2.2.2.2.2.2.2.2.1) rfl hd rfl hn (by omega) (by omega) (by omega) fun cA kA comp f1 f2 f3 f4 => ?_
  have hcA : cA = g.2.2.2.2.2 := by
    obtain ⟨kA, comp, -, -, -, k4⟩ := (ok.2.2.2.2.2.2.2.1.2 2 _ rfl).2
    exact Option.some.inj (f1.symm.trans k4)
  subst hcA
  generalize hH1 : H.push ({ cls := g.2.2.2.2.2, slots := Array.replicate n.toNatClampNeg .null, vm := .none } : Cell) = H1
  have z1 : H1.size = H.size + 1 := by rw [← hH1, Array.size_push]
  have e1 : H1[H.size]? = some (arrV g.2.2.2.2.2 n.toNatClampNeg (fun _ => .null)) := by rw [← hH1, Array.getElem?_push_size, ← arrV_new]
  have o1 : ∀ q, q < H.size → H1[q]? = H[q]? := by
    intro q hq
    rw [← hH1, Array.getElem?_push, if_neg (Nat.ne_of_lt hq)]
  have e2 : jval g (.ref h.length) = .ref H.size := by
    show Value.ref (jad g h.length) = _
    simp only [jad]
    rw [if_pos hl, hz]
  have kk := k ok H1 locs a (k' + 1) (n' + n.toNatClampNeg) (by show k' + 1 + K ≤ _; omega) (by show n' + n.toNatClampNeg + M ≤ _; omega) (jRep_push (c := jR n.toNatClampNeg (fun _ => none)) hR hl hz e1 o1) (fun _ => by rw [z1, hz]; simp; omega) ⟨Nat.le_trans hS.1 (by omega), fun x q1 q2 => (o1 x (Nat.lt_of_lt_of_le q1 hS.1)).trans (hS.2.1 x q1 q2), hS.2.2⟩ hL
  rw [List.map_cons, e2] at kk
  exact kk
theorem e_new {i ci N K M : Nat} {C : String} {T : u_T} {ty : Nat → FieldType} (fs : List Value) (hd : decode cc pc = .ok (.new i, 3)) (hC : jCl ci C T N ty) (hc : Cond.classLink own i C ∈ jT) (hi : Cond.instantiable C N ∈ jT) (hin : Cond.initialized C ∈ jT) (hfs : ∀ j, j < N → defaultValue (ty j) = vp_V fs j) (hfs2 : ∀ g : jG, fs.map (jval g) = fs) (hl : h.length < 1000)
    (k : jV cc own d X (some (K, M)) (pc + 3) ls (.ref h.length :: st) (h ++ [jO ci fs])) : jV cc own d X (some (K + 1, M + N)) pc ls st h := by
  obtain ⟨l, g, p, e, R, s, m, args, below, meth, c, Q⟩ := X
  intro ok H locs a k' n' h1 h2 hR hz hS hL
  have hk : k' + (K + 1) ≤ R.cells := h1
  have hm : n' + (M + N) ≤ R.slots := h2
  have hz := hz rfl
  obtain ⟨f1, f2, f3, f4⟩ := hC
  have hKn := ok.2.2.2.2.2.2.2.1.1 ci _ f1
  refine W.newcK ok.1 ok.2.1 ok.2.2.1 (ok.2.2.2.1 _ hc) (ok.2.2.2.1 _ hi) (ok.2.2.2.1 _ hin) rfl hd (by omega) (by omega) hKn.2.1 rfl fun H1 kC hkC e1 z1 o1 => ?_
  have hat : va_at g.2.2.1 vwCl (H.size, jcell g (jO ci fs)) H1 := by
    refine ⟨_, f1, (u_born ty ok.2.2.2.1 f2 hKn hkC e1 f3).to (fun j hj => ?_)⟩
    show _ = vp_V (fs.map (jval g)) j
    rw [hfs2]
    exact hfs j hj
  have e2 : jval g (.ref h.length) = .ref H.size := by
    show Value.ref (jad g h.length) = _
    simp only [jad]
    rw [if_pos hl, hz]
  have kk := k ok H1 locs a (k' + 1) (n' + N) (by show k' + 1 + K ≤ _; omega) (by show n' + N + M ≤ _; omega) (jRep_push (c := jO ci fs) hR hl hz hat o1) (fun _ => by rw [z1, hz]; simp; omega) ⟨Nat.le_trans hS.1 (by omega), fun x q1 q2 => (o1 x (Nat.lt_of_lt_of_le q1 hS.1)).trans (hS.2.1 x q1 q2), hS.2.2⟩ hL
  rw [List.map_cons, e2] at kk
  exact kk
/-- behind a call -/
theorem jrun {p : Program} {l : Launch} {e : Env} {R : Room} {s : State} {m : MethodId} {args : Array Value} {below : List Frame} {meth : Method} {c : Code} {H : Heap} {locs : List Loc} {k n mc ms pc : Nat} {a : Array Slot} {st0 rest : List Value} {g : jG} {b : jB} {post : Option Value → jH → Prop} {av : Array Value} {Q : State → Prop}
    (hr : va_Run p l e R s m args below meth c H locs k n mc ms (F0 m pc a st0) rest (jQc g b post av) (jA g)) (hS : va_S (jA g) s.heap H locs)
    (kk : ∀ (v : Option Value) (h' : jH) (H1 : Heap) (locs1 : List Loc), post v h' → jRep g h' H1 → (b.isSome = true → H1.size = g.1 + h'.length) → va_S (jA g) s.heap H1 locs1 → W p l e R s m args below meth c H1 locs1 (k + mc) (n + ms) Q (F0 m (pc + 3) a ((v.map (jval g)).toList ++ rest))) : W p l e R s m args below meth c H locs k n Q (F0 m pc a st0) := by
  intro T hT X
  obtain ⟨v, st₀, t, T', L, h0, X', hL, e1, e2, ⟨⟨v', h', hv, hp, hR, hz⟩, hz1, hk⟩, st⟩ := hr T hT X
  cases hv
  rw [h0] at hz1 hk
  obtain ⟨t2, a1, b1⟩ := kk v' h' T'.heap (locs ++ L) hp (by rw [e1]; exact hR) (fun z => by rw [e1]; exact hz z)
    ⟨Nat.le_trans hS.1 (by rw [e1]; exact hz1), fun q h1 h2 => by rw [e1, hk q (Nat.lt_of_lt_of_le h1 hS.1) h2]; exact hS.2.1 q h1 h2, fun q hq => by
      rcases List.mem_append.mp hq with h | h
      · exact hS.2.2 q h
      · exact hL q h⟩ T' rfl X'
  exact ⟨t2, st t2 a1, b1⟩
theorem jmap_toList (g : jG) (v : Option Value) (st : List Value) : (v.map (jval g)).toList ++ st.map (jval g) = (v.toList ++ st).map (jval g) := by cases v <;> rfl
theorem jblind {g : jG} {b : jB} {h : jH} {av : List Value} : FrameBlind (va_Pc av (fun U => jRep g h U.heap ∧ (b.isSome = true → U.heap.size = g.1 + h.length) ∧ jK g U U.heap)) := fun a U f mk q => by
  obtain ⟨q1, q2, q3, q4⟩ := q
  exact ⟨q1, q2, q3, va_K.moved (u := U) (U := U.calling f mk a) (Vm.Alike.refl U.vm) q4.1, fun j x hx => ⟨va_Z.moved (u := U) (U := U.calling f mk a) (Vm.Alike.refl U.vm) (q4.2.1 j x hx).1, va_T.moved (u := U) (U := U.calling f mk a) (Vm.Alike.refl U.vm) (q4.2.1 j x hx).2⟩, va_Nw.same rfl rfl q4.2.2.1, va_Nw.same rfl rfl q4.2.2.2.1, va_AO.moved (u := U) (U := U.calling f mk a) (Vm.Alike.refl U.vm) q4.2.2.2.2.1, q4.2.2.2.2.2⟩
theorem jsum8 {g : jG} {st : List Value} (hsum : (st.map fun v => v.category).sum ≤ 8) : ((st.map (jval g)).map fun v => v.category).sum ≤ 8 := by
  rw [List.map_map]
  have : (fun v => (v : Value).category) ∘ jval g = fun v => v.category := by funext v; exact jval_cat g v
  rw [this]; exact hsum
theorem jmem_code {y : MethodName} {yc : ByteArray} {maxL : Nat} {ret : Option FieldType} (h : Cond.code y yc maxL ret ∈ jT) : ∀ w ∈ Cond.code y yc maxL ret :: jT, w ∈ jT := fun w hw => (List.mem_cons.mp hw).elim (fun e => e ▸ h) id
/-- a call of a static method of ours -/
theorem e_cs {i maxL np dc : Nat} {y : MethodName} {yc : ByteArray} {ret : Option FieldType} {bc b' : jB} {As st0 : List Value} {post : Option Value → jH → Prop} (hd : decode cc pc = .ok (.invokestatic i, 3)) (hf : jCs own i y yc maxL ret np) (hM : jM y yc maxL ret dc bc As h post) (hdc : dc + 1 ≤ d) (hn : As.length = np) (hst : st0 = As.reverse ++ st) (hsum : (st.map fun v => v.category).sum ≤ 8) (hb : jBud b bc b')
    (k : ∀ (v : Option Value) (h' : jH), post v h' → jV cc own d X b' (pc + 3) ls (v.toList ++ st) h') : jV cc own d X b pc ls st0 h := by
  obtain ⟨l, g, p, e, R, s, m, args, below, meth, c, Q⟩ := X
  intro ok H locs a k' n' h1 h2 hR hz hS hL
  obtain ⟨f1, f2, f3, f4, f5, f6⟩ := hf
  obtain ⟨b1, b2, b3, b4⟩ := hb
  have hfr := ok.2.2.2.2.2.1
  have hlo := ok.2.2.2.2.2.2.1
  have hG : GoodIn jT (va_wsS own i y (Cond.code y yc maxL ret :: jT)) := jT_in (fun w hw => by
    rcases List.mem_append.mp hw with h | h
    · simp only [List.mem_cons, List.not_mem_nil, or_false] at h
      rcases h with rfl | rfl | rfl <;> assumption
    · exact jmem_code f4 w h)
  subst hst
  refine jrun (g := g) (b := bc) (post := post) (rest := st.map (jval g)) (va_runS (As := As.map (jval g)) (rest := st.map (jval g)) (n := np) (nL := c.maxLocals) ⟨ok.1, ok.2.1, rfl, ok.2.2.1, ok.2.2.2.1⟩ (hM l g) (va_cwS np ok.2.2.2.1 hG rfl rfl rfl f5 ⟨?_, ?_⟩) ⟨jblind, fun U hU hW => ⟨rfl, ?_, ?_, ?_⟩⟩ rfl (by simp; exact hn) (by show a.size = _; exact hL.2.1) (by simp) (lv_room (jsum8 hsum)) hd ⟨by omega, by omega⟩) hS (fun v h' H1 locs1 hp hR1 hz1 hS1 => ?_)
  · show dc + 1 ≤ R.frames; omega
  · show 8 + (maxL + 11) + 64 * dc ≤ R.locals; omega
  · rw [hU]; exact hR
  · rw [hU]; exact fun z => hz (by rw [← b3]; exact z)
  · exact jK_moved hW ok.2.2.2.2.2.2.2 (by rw [hU]; exact hS.1) (fun q q1 q2 => by rw [hU]; exact hS.2.1 q q1 q2)
  · rw [jmap_toList]
    exact k v h' hp ok H1 locs1 a (k' + jbk bc) (n' + jbn bc) (by omega) (by omega) hR1 (fun z => hz1 (by rw [b3, ← b4]; exact z)) hS1 hL
/-- a call of a private static method of a nest mate -/
theorem e_cn {i maxL np dc : Nat} {y : MethodName} {host : String} {yc : ByteArray} {ret : Option FieldType} {bc b' : jB} {As st0 : List Value} {post : Option Value → jH → Prop} (hd : decode cc pc = .ok (.invokestatic i, 3)) (hf : jCn own i y host yc maxL ret np) (hM : jM y yc maxL ret dc bc As h post) (hdc : dc + 1 ≤ d) (hn : As.length = np) (hst : st0 = As.reverse ++ st) (hsum : (st.map fun v => v.category).sum ≤ 8) (hb : jBud b bc b')
    (k : ∀ (v : Option Value) (h' : jH), post v h' → jV cc own d X b' (pc + 3) ls (v.toList ++ st) h') : jV cc own d X b pc ls st0 h := by
  obtain ⟨l, g, p, e, R, s, m, args, below, meth, c, Q⟩ := X
  intro ok H locs a k' n' h1 h2 hR hz hS hL
  obtain ⟨f1, f2, f3, f4, f5, f6⟩ := hf
  obtain ⟨b1, b2, b3, b4⟩ := hb
  have hfr := ok.2.2.2.2.2.1
  have hlo := ok.2.2.2.2.2.2.1
  have hG : GoodIn jT (Cond.code y yc maxL ret :: jT) := jT_in (jmem_code f4)
  subst hst
  refine jrun (g := g) (b := bc) (post := post) (rest := st.map (jval g)) (va_runSN (As := As.map (jval g)) (rest := st.map (jval g)) (n := np) (nL := c.maxLocals) ⟨ok.1, ok.2.1, rfl, ok.2.2.1, ok.2.2.2.1⟩ (hM l g) ⟨va_cnB np ok.2.2.2.1 hG rfl rfl rfl (f1 g s s.heap ok.2.2.2.2.2.2.2) (ok.2.2.2.1 _ f3) f5 ⟨?_, ?_⟩, ok.2.2.2.1 _ f2, trivial⟩ ⟨jblind, fun U hU hW => ⟨rfl, ?_, ?_, ?_⟩⟩ rfl (by simp; exact hn) (by show a.size = _; exact hL.2.1) (by simp) (lv_room (jsum8 hsum)) hd ⟨by omega, by omega⟩) hS (fun v h' H1 locs1 hp hR1 hz1 hS1 => ?_)
  · show dc + 1 ≤ R.frames; omega
  · show 8 + (maxL + 11) + 64 * dc ≤ R.locals; omega
  · rw [hU]; exact hR
  · rw [hU]; exact fun z => hz (by rw [← b3]; exact z)
  · exact jK_moved hW ok.2.2.2.2.2.2.2 (by rw [hU]; exact hS.1) (fun q q1 q2 => by rw [hU]; exact hS.2.1 q q1 q2)
  · rw [jmap_toList]
    exact k v h' hp ok H1 locs1 a (k' + jbk bc) (n' + jbn bc) (by omega) (by omega) hR1 (fun z => hz1 (by rw [b3, ← b4]; exact z)) hS1 hL
/-- a call of a method of an object -/
theorem e_cv {i maxL np dc o ci N : Nat} {y : MethodName} {yc : ByteArray} {T : u_T} {ret : Option FieldType} {bc b' : jB} {As st0 fs : List Value} {post : Option Value → jH → Prop} (hd : decode cc pc = .ok (.invokevirtual i, 3)) (hf : jCv own i y yc maxL ret np) (hM : jM y yc maxL ret dc bc (.ref o :: As) h post) (hdc : dc + 1 ≤ d) (hn : As.length = np) (hst : st0 = As.reverse ++ .ref o :: st) (hsum : (st.map fun v => v.category).sum ≤ 8) (hb : jBud b bc b') (hC : vwCl[ci]? = some (y.cls, T, N)) (hc : h[o]? = some (jO ci fs))
    (k : ∀ (v : Option Value) (h' : jH), post v h' → jV cc own d X b' (pc + 3) ls (v.toList ++ st) h') : jV cc own d X b pc ls st0 h := by
  obtain ⟨l, g, p, e, R, s, m, args, below, meth, c, Q⟩ := X
  intro ok H locs a k' n' h1 h2 hR hz hS hL
  obtain ⟨f1, f2, f3, f4, f5, f6, f7⟩ := hf
  obtain ⟨b1, b2, b3, b4⟩ := hb
  have hfr := ok.2.2.2.2.2.1
  have hlo := ok.2.2.2.2.2.2.1
  have hG : GoodIn jT (wsV own i y.cls y (Cond.code y yc maxL ret :: jT)) := jT_in (fun w hw => by
    rcases List.mem_append.mp hw with h | h
    · simp only [List.mem_cons, List.not_mem_nil, or_false] at h
      rcases h with rfl | rfl | rfl | rfl <;> assumption
    · exact jmem_code f5 w h)
  subst hst
  refine jrun (g := g) (b := bc) (post := post) (rest := st.map (jval g)) (va_runV (As := As.map (jval g)) (rest := st.map (jval g)) (n := np) (nL := c.maxLocals) (b := jad g o) ⟨ok.1, ok.2.1, rfl, ok.2.2.1, ok.2.2.2.1⟩ (hM l g) (cwV np ok.2.2.2.1 hG rfl rfl rfl ⟨rfl, f6⟩ ⟨?_, ?_⟩) ⟨jblind, va_recv ok.2.2.2.2.2.2.2.1 hR.2 hC (jws_at hc), fun U hU hW => ⟨rfl, ?_, ?_, ?_⟩⟩ rfl (by simp; exact hn) (by show a.size = _; exact hL.2.1) (by simp [jval]) (lv_room (jsum8 hsum)) hd ⟨by omega, by omega⟩) hS (fun v h' H1 locs1 hp hR1 hz1 hS1 => ?_)
  · show dc + 1 ≤ R.frames; omega
  · show 8 + (maxL + 11) + 64 * dc ≤ R.locals; omega
  · rw [hU]; exact hR
  · rw [hU]; exact fun z => hz (by rw [← b3]; exact z)
  · exact jK_moved hW ok.2.2.2.2.2.2.2 (by rw [hU]; exact hS.1) (fun q q1 q2 => by rw [hU]; exact hS.2.1 q q1 q2)
  · rw [jmap_toList]
    exact k v h' hp ok H1 locs1 a (k' + jbk bc) (n' + jbn bc) (by omega) (by omega) hR1 (fun z => hz1 (by rw [b3, ← b4]; exact z)) hS1 hL
/-- a call of a constructor of ours -/
theorem e_ci {i maxL np dc o : Nat} {y : MethodName} {yc : ByteArray} {bc b' : jB} {As st0 : List Value} {post : Option Value → jH → Prop} (hd : decode cc pc = .ok (.invokespecial i, 3)) (hf : jCi own i y yc maxL np) (hM : jM y yc maxL none dc bc (.ref o :: As) h post) (hdc : dc + 1 ≤ d) (hn : As.length = np) (hst : st0 = As.reverse ++ .ref o :: st) (hsum : (st.map fun v => v.category).sum ≤ 8) (hb : jBud b bc b')
    (k : ∀ (v : Option Value) (h' : jH), post v h' → jV cc own d X b' (pc + 3) ls (v.toList ++ st) h') : jV cc own d X b pc ls st0 h := by
  obtain ⟨l, g, p, e, R, s, m, args, below, meth, c, Q⟩ := X
  intro ok H locs a k' n' h1 h2 hR hz hS hL
  obtain ⟨f1, f2, f3, f4, f5, f6, f7⟩ := hf
  obtain ⟨b1, b2, b3, b4⟩ := hb
  have hfr := ok.2.2.2.2.2.1
  have hlo := ok.2.2.2.2.2.2.1
  have hG : GoodIn jT (Cond.code y yc maxL none :: jT) := jT_in (jmem_code f4)
  subst hst
  refine jrun (g := g) (b := bc) (post := post) (rest := st.map (jval g)) (va_runI (As := As.map (jval g)) (rest := st.map (jval g)) (n := np) (nL := c.maxLocals) (b := jad g o) ⟨ok.1, ok.2.1, rfl, ok.2.2.1, ok.2.2.2.1⟩ (hM l g) (cwI np ok.2.2.2.1 hG rfl rfl rfl (ok.2.2.2.1 _ f3) (ok.2.2.2.1 _ f1) (ok.2.2.2.1 _ f2) f5 f6 ⟨?_, ?_⟩) ⟨jblind, fun U hU hW => ⟨rfl, ?_, ?_, ?_⟩⟩ rfl (by simp; exact hn) (by show a.size = _; exact hL.2.1) (by simp [jval]) (lv_room (jsum8 hsum)) hd ⟨by omega, by omega⟩) hS (fun v h' H1 locs1 hp hR1 hz1 hS1 => ?_)
  · show dc + 1 ≤ R.frames; omega
  · show 8 + (maxL + 11) + 64 * dc ≤ R.locals; omega
  · rw [hU]; exact hR
  · rw [hU]; exact fun z => hz (by rw [← b3]; exact z)
  · exact jK_moved hW ok.2.2.2.2.2.2.2 (by rw [hU]; exact hS.1) (fun q q1 q2 => by rw [hU]; exact hS.2.1 q q1 q2)
  · rw [jmap_toList]
    exact k v h' hp ok H1 locs1 a (k' + jbk bc) (n' + jbn bc) (by omega) (by omega) hR1 (fun z => hz1 (by rw [b3, ← b4]; exact z)) hS1 hL
/-- returns -/
theorem e_iret {b0 : jB} {post : Option Value → jH → Prop} {x : Int32} (hX : jRet X (some .int) b0 post) (hd : decode cc pc = .ok (.ireturn, 1)) (hp : post (some (.int x)) h) (hb : b0.isSome = true → b.isSome = true) : jV cc own d X b pc ls [.int x] h := by
  obtain ⟨l, g, p, e, R, s, m, args, below, meth, c, Q⟩ := X
  intro ok H locs a k' n' h1 h2 hR hz hS hL
  obtain ⟨r1, r2, r3, rfl⟩ := hX
  refine W.widen (k := jbk b0) (n := jbn b0) (by omega) (by omega) ?_
  exact W.iret ok.1 ok.2.1 r1 (fun t ht _ => ⟨⟨some (.int x), h, rfl, hp, by rw [ht]; exact hR, fun z => by rw [ht]; exact hz (hb z)⟩, hS.F ht⟩) (fun q hq => hS.2.2 q hq) hd ok.2.2.2.2.1
theorem e_zret {b0 : jB} {post : Option Value → jH → Prop} {x : Int32} (hX : jRet X (some .boolean) b0 post) (hd : decode cc pc = .ok (.ireturn, 1)) (hx : narrow .boolean (.int x) = .int x) (hp : post (some (.int x)) h) (hb : b0.isSome = true → b.isSome = true) : jV cc own d X b pc ls [.int x] h := by
  obtain ⟨l, g, p, e, R, s, m, args, below, meth, c, Q⟩ := X
  intro ok H locs a k' n' h1 h2 hR hz hS hL
  obtain ⟨r1, r2, r3, rfl⟩ := hX
  refine W.widen (k := jbk b0) (n := jbn b0) (by omega) (by omega) ?_
  exact W.zret ok.1 ok.2.1 r1 hx (fun t ht _ => ⟨⟨some (.int x), h, rfl, hp, by rw [ht]; exact hR, fun z => by rw [ht]; exact hz (hb z)⟩, hS.F ht⟩) (fun q hq => hS.2.2 q hq) hd ok.2.2.2.2.1
theorem e_ret {b0 : jB} {post : Option Value → jH → Prop} (hX : jRet X none b0 post) (hd : decode cc pc = .ok (.return_, 1)) (hp : post none h) (hb : b0.isSome = true → b.isSome = true) : jV cc own d X b pc ls [] h := by
  obtain ⟨l, g, p, e, R, s, m, args, below, meth, c, Q⟩ := X
  intro ok H locs a k' n' h1 h2 hR hz hS hL
  obtain ⟨r1, r2, r3, rfl⟩ := hX
  refine W.widen (k := jbk b0) (n := jbn b0) (by omega) (by omega) ?_
  exact W.vret ok.1 ok.2.1 r1 (fun t ht _ => ⟨⟨none, h, rfl, hp, by rw [ht]; exact hR, fun z => by rw [ht]; exact hz (hb z)⟩, hS.F ht⟩) (fun q hq => hS.2.2 q hq) hd ok.2.2.2.2.1
theorem e_aret {b0 : jB} {post : Option Value → jH → Prop} {o : Nat} {C : String} (hX : jRet X (some (.object C)) b0 post) (hd : decode cc pc = .ok (.areturn, 1)) (hp : post (some (.ref o)) h) (hb : b0.isSome = true → b.isSome = true) : jV cc own d X b pc ls [.ref o] h := by
  obtain ⟨l, g, p, e, R, s, m, args, below, meth, c, Q⟩ := X
  intro ok H locs a k' n' h1 h2 hR hz hS hL
  obtain ⟨r1, r2, r3, rfl⟩ := hX
  refine W.widen (k := jbk b0) (n := jbn b0) (by omega) (by omega) ?_
  exact W.aret ok.1 ok.2.1 r1 (Or.inl ⟨_, rfl⟩) (Or.inr ⟨_, rfl⟩) (fun t ht _ => ⟨⟨some (.ref o), h, rfl, hp, by rw [ht]; exact hR, fun z => by rw [ht]; exact hz (hb z)⟩, hS.F ht⟩) (fun q hq => hS.2.2 q hq) hd ok.2.2.2.2.1
end JS
