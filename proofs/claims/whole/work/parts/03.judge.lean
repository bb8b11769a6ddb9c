/-! The judgement jV: a frame of one of the system's methods over an abstract heap (a list of cells, references are places in it). -/
abbrev jC : Type := (Nat × (Nat → Int32)) ⊕ ((Nat × (Nat → Int32)) ⊕ ((Nat × (Nat → Option Nat)) ⊕ (Nat × List Value)))
abbrev jH : Type := List jC
abbrev jI (n : Nat) (f : Nat → Int32) : jC := .inl (n, f)
abbrev jZ (n : Nat) (f : Nat → Int32) : jC := .inr (.inl (n, f))
abbrev jR (n : Nat) (f : Nat → Option Nat) : jC := .inr (.inr (.inl (n, f)))
abbrev jO (k : Nat) (fs : List Value) : jC := .inr (.inr (.inr (k, fs)))
/-- the tables' words that a callee may take over -/
def jT : List Cond := lw_tbl.filter goodWord
theorem jT_good {w : Cond} (h : w ∈ jT) : goodWord w = true := (List.mem_filter.mp h).2
theorem jT_in {ws : List Cond} (h : ∀ w ∈ ws, w ∈ jT) : GoodIn jT ws := fun w hw => ⟨h w hw, good_of_word (jT_good (h w hw))⟩
theorem jT_at {w : Cond} (k : Nat) (h : lw_tbl[k]? = some w) (hg : goodWord w = true) : w ∈ jT := List.mem_filter.mpr ⟨List.mem_of_getElem? h, hg⟩
/-- base address, addresses of what lies below, classes' numbers and slots, array classes -/
abbrev jG : Type := Nat × (Nat → Nat) × va_G × ClassId × ClassId × ClassId
def jad (g : jG) (i : Nat) : Nat := if i < 1000 then g.1 + i else g.2.1 i
def jval (g : jG) (v : Value) : Value := match v with
  | .ref i => .ref (jad g i)
  | v => v
def jcell (g : jG) (c : jC) : va_E := match c with
  | .inl q => .inl (g.2.2.2.1, q.1, .inl q.2)
  | .inr (.inl q) => .inl (g.2.2.2.2.1, q.1, .inl q.2)
  | .inr (.inr (.inl q)) => .inl (g.2.2.2.2.2, q.1, .inr (.inr (.inr (.inr (fun k => (q.2 k).map (jad g))))))
  | .inr (.inr (.inr q)) => .inr (q.1, q.2.map (jval g))
def jws (g : jG) (h : jH) : va_W := h.mapIdx (fun i c => (jad g i, jcell g c))
def jA (g : jG) : Nat → Prop := fun q => g.1 ≤ q
def jtys (g : jG) : List (ClassId × FieldType) := [(g.2.2.2.1, .int), (g.2.2.2.2.1, .boolean), (g.2.2.2.2.2, .object "BellowsWords$House")]
def jRep (g : jG) (h : jH) (H : Heap) : Prop := h.length ≤ 1000 ∧ va_P g.2.2.1 vwCl (jws g h) H
/-- the five static tables -/
def jtabs : List (String × String × Nat × List Int32) := [("BellowsWords$Foreteller", "LEAST_SUPPOSED", 5, [1, 0, 0, 0, 0]), ("BellowsWords$Foreteller", "MOST_SUPPOSED", 5, [5, 15, 1, 40, 40]), ("BellowsWords", "PARENT", 6, [-1, 0, 1, 1, 0, 4]), ("BellowsWords$Asker", "SIZE_BODY", 6, [10, 11, 12, 11, 13, 14]), ("BellowsWords$Asker", "MARK_BODY", 6, [20, 21, 24, 22, 23, 23])]
def jTab (g : jG) (U : State) (H : Heap) : Prop := ∀ (j : Nat) (q : String × String × Nat × List Int32), jtabs[j]? = some q → va_Z q.1 q.2.1 "[I" (.ref (g.2.1 (1000 + j))) (jA g) U H ∧ va_T .int (g.2.1 (1000 + j)) q.2.2.1 (fun k => .int (q.2.2.2.getD k 0)) (jA g) U H
def jK (g : jG) (U : State) (H : Heap) : Prop := va_K g.2.2.1 vwCl (jtys g) U ∧ jTab g U H ∧ va_Nw (.methodLinkNest RX5 99 yX6_isWithin RX6) U ∧ va_Nw (.methodLinkNest RX2 91 yX6_power RX6) U ∧ va_AO "BellowsWords$House" U ∧ g.1 ≤ H.size
theorem jK_moved {g : jG} {u U : State} {H H1 : Heap} (hW : u.WarmedH U.vm) (h : jK g u H) (hz : H.size ≤ H1.size) (hq : ∀ q : Nat, q < H.size → ¬ jA g q → H1[q]? = H[q]?) : jK g U H1 :=
  ⟨va_K.moved hW.alike h.1, fun j q hj => ⟨va_Z.moved hW.alike ((h.2.1 j q hj).1.kept hq), va_T.moved hW.alike ((h.2.1 j q hj).2.kept hq)⟩, va_Nw.warmM hW h.2.2.1, va_Nw.warmM hW h.2.2.2.1, va_AO.moved hW.alike h.2.2.2.2.1, Nat.le_trans h.2.2.2.2.2 hz⟩
theorem jws_at {g : jG} {h : jH} {i : Nat} {c : jC} (hc : h[i]? = some c) : (jws g h)[i]? = some (jad g i, jcell g c) := by
  simp [jws, List.getElem?_mapIdx, hc]
theorem jws_of {g : jG} {h : jH} {i : Nat} {q : Nat × va_E} (hq : (jws g h)[i]? = some q) : ∃ c, h[i]? = some c ∧ q = (jad g i, jcell g c) := by
  simp only [jws, List.getElem?_mapIdx] at hq
  cases hc : h[i]? with
  | none => rw [hc] at hq; cases hq
  | some c => rw [hc] at hq; cases hq; exact ⟨c, rfl, rfl⟩
theorem jws_set {g : jG} {h : jH} {i : Nat} {c : jC} : (jws g h).set i (jad g i, jcell g c) = jws g (h.set i c) := by
  apply List.ext_getElem?
  intro k
  by_cases hk : i = k
  · subst hk
    by_cases hl : i < h.length
    · rw [List.getElem?_set_self (by simp [jws]; exact hl), jws_at (c := c) (by rw [List.getElem?_set_self hl])]
    · rw [List.getElem?_eq_none (by simp [jws]; omega), List.getElem?_eq_none (by simp [jws]; omega)]
  · rw [List.getElem?_set_ne hk]
    simp only [jws, List.getElem?_mapIdx, List.getElem?_set_ne hk]
theorem jws_push {g : jG} {h : jH} {c : jC} : jws g (h ++ [c]) = jws g h ++ [(jad g h.length, jcell g c)] := by
  simp [jws, List.mapIdx_append]
theorem jws_D {g : jG} {h : jH} (hl : h.length ≤ 1000) : va_D (jA g) (jws g h) := by
  refine ⟨fun i j p q hi hj hpq => ?_, fun k q hk => ?_⟩
  · obtain ⟨c, hc, rfl⟩ := jws_of hi
    obtain ⟨c2, hc2, rfl⟩ := jws_of hj
    have l1 := (List.getElem?_eq_some_iff.mp hc).1
    have l2 := (List.getElem?_eq_some_iff.mp hc2).1
    simp only [jad] at hpq
    rw [if_pos (by omega), if_pos (by omega)] at hpq
    omega
  · obtain ⟨c, hc, rfl⟩ := jws_of hk
    have l1 := (List.getElem?_eq_some_iff.mp hc).1
    show g.1 ≤ jad g k
    simp only [jad]
    rw [if_pos (by omega)]
    omega
theorem jRep_set {g : jG} {h : jH} {H H1 : Heap} {i : Nat} {c0 c : jC} (hR : jRep g h H) (hc : h[i]? = some c0) (he : va_at g.2.2.1 vwCl (jad g i, jcell g c) H1) (oq : ∀ q : Nat, q ≠ jad g i → H1[q]? = H[q]?) : jRep g (h.set i c) H1 := by
  refine ⟨by simp; exact hR.1, ?_⟩
  rw [← jws_set]
  exact hR.2.set (jws_D hR.1) (jws_at hc) he oq
theorem jRep_push {g : jG} {h : jH} {H H1 : Heap} {c : jC} (hR : jRep g h H) (hl : h.length < 1000) (hz : H.size = g.1 + h.length) (he : va_at g.2.2.1 vwCl (H.size, jcell g c) H1) (oq : ∀ q : Nat, q < H.size → H1[q]? = H[q]?) : jRep g (h ++ [c]) H1 := by
  refine ⟨by simp; omega, ?_⟩
  rw [jws_push]
  have e : jad g h.length = H.size := by simp only [jad]; rw [if_pos hl, hz]
  rw [e]
  refine (hR.2.kept fun k q hk => oq q.1 ((hR.2 k q hk).lt)).app (fun k q hk => ?_)
  have hz : k < 1 := (List.getElem?_eq_some_iff.mp hk).1
  rw [show k = 0 by omega] at hk
  cases hk
  exact he
/-- locals: by place; none: not known -/
def jal (g : jG) (ls : List (Option Value)) : List (Nat × Value) := ls.zipIdx.filterMap (fun q => q.1.map (fun v => (q.2, jval g v)))
theorem jal_mem {g : jG} {ls : List (Option Value)} {i : Nat} {v : Value} (h : ls[i]? = some (some v)) : (i, jval g v) ∈ jal g ls := by
  refine List.mem_filterMap.mpr ⟨(some v, i), ?_, rfl⟩
  rw [List.mem_zipIdx_iff_getElem?]
  exact h
theorem jal_of {g : jG} {ls : List (Option Value)} {q : Nat × Value} (h : q ∈ jal g ls) : ∃ v, ls[q.1]? = some (some v) ∧ q.2 = jval g v := by
  obtain ⟨x, hx, he⟩ := List.mem_filterMap.mp h
  obtain ⟨o, i⟩ := x
  rw [List.mem_zipIdx_iff_getElem?] at hx
  cases o with
  | none => cases he
  | some v => cases he; exact ⟨v, hx, rfl⟩
def jL (g : jG) (c : Code) (ls : List (Option Value)) (a : Array Slot) : Prop := ls.length = c.maxLocals ∧ lv_has a c.maxLocals (jal g ls)
theorem jL_at {g : jG} {c : Code} {ls : List (Option Value)} {a : Array Slot} (h : jL g c ls a) {i : Nat} {v : Value} (hi : ls[i]? = some (some v)) : a[i]? = some (.val (jval g v)) := h.2.2.2 _ (jal_mem hi)
def jnl : Option Value → Bool
  | some (.long _) => false
  | some (.double _) => false
  | _ => true
theorem jval_cat (g : jG) (v : Value) : (jval g v).category = v.category := by cases v <;> rfl
theorem jnl_cat {v : Value} (h : jnl (some v) = true) : v.category = 1 := by cases v <;> first | rfl | cases h
/-- the locals behind a store of one slot -/
theorem jL_set1 {g : jG} {c : Code} {ls : List (Option Value)} {a a' : Array Slot} {i : Nat} {v : Value} (h : jL g c ls a) (hi : i < ls.length) (hn : ∀ j : Nat, j + 1 = i → ∀ w : Value, ls[j]? = some (some w) → w.category = 1)
    (h' : lv_has a' c.maxLocals ((i, jval g v) :: (jal g ls).filter (fun q => !(q.1 == i) && !(q.1 + 1 == i && q.2.category == 2)))) : jL g c (ls.set i (some v)) a' := by
  refine ⟨by simp; exact h.1, h'.1, h'.2.1, fun q hq => ?_⟩
  obtain ⟨w, hw, e⟩ := jal_of hq
  refine h'.2.2 q ?_
  by_cases hk : i = q.1
  · subst hk
    rw [List.getElem?_set_self hi] at hw
    cases hw
    exact List.mem_cons.mpr (Or.inl (Prod.ext rfl e))
  · rw [List.getElem?_set_ne hk] at hw
    refine List.mem_cons_of_mem _ (List.mem_filter.mpr ⟨?_, ?_⟩)
    · have := jal_mem (g := g) hw
      rw [← e] at this
      exact this
    · have hc : q.1 + 1 = i → (q.2).category = 1 := fun z => by rw [e, jval_cat]; exact hn q.1 z w hw
      simp only [Bool.and_eq_true, Bool.not_eq_true', beq_eq_false_iff_ne, ne_eq, Bool.and_eq_false_iff]
      refine ⟨fun z => hk z.symm, ?_⟩
      by_cases z : q.1 + 1 = i
      · exact Or.inr (by rw [hc z]; decide)
      · exact Or.inl z
/-- what may still be made: none: nothing, and the heap's size isn't followed -/
abbrev jB : Type := Option (Nat × Nat)
def jbk (b : jB) : Nat := (b.map (fun q => q.1)).getD 0
def jbn (b : jB) : Nat := (b.map (fun q => q.2)).getD 0
abbrev jX : Type := Launch × jG × Program × Env × Room × State × MethodId × Array Value × List Frame × Method × Code × (State → Prop)
def jOK (cc : ByteArray) (own : String) (d : Nat) (g : jG) (p : Program) (R : Room) (s : State) (m : MethodId) (args : Array Value) (meth : Method) (c : Code) : Prop :=
  p.tables.exec = Jvm.exec ∧ c.code = cc ∧ s.vm.findClass own = some m.cls ∧ (∀ w ∈ jT, w.before args s = true) ∧ meth.locks = false ∧ d ≤ R.frames ∧ 64 * d ≤ R.locals ∧ jK g s s.heap
def jV (cc : ByteArray) (own : String) (d : Nat) (X : jX) (b : jB) (pc : Nat) (ls : List (Option Value)) (st : List Value) (h : jH) : Prop := match X with
  | (l, g, p, e, R, s, m, args, below, meth, c, Q) => jOK cc own d g p R s m args meth c → ∀ (H : Heap) (locs : List Loc) (a : Array Slot) (k n : Nat), k + jbk b ≤ R.cells → n + jbn b ≤ R.slots → jRep g h H → (b.isSome = true → H.size = g.1 + h.length) → va_S (jA g) s.heap H locs → jL g c ls a → W p l e R s m args below meth c H locs k n Q (F0 m pc a (st.map (jval g)))
def jroom (d : Nat) (b : jB) : Room := { frames := d, cells := jbk b, slots := jbn b, locals := 64 * d }
def jQc (g : jG) (b : jB) (post : Option Value → jH → Prop) : Array Value → State → Outcome → State → Prop := fun _ st oc t => (∃ (v : Option Value) (h : jH), oc = .returned (v.map (jval g)) ∧ post v h ∧ jRep g h t.heap ∧ (b.isSome = true → t.heap.size = g.1 + h.length)) ∧ va_F (jA g) st t
/-- a method's contract -/
def jM (y : MethodName) (cc : ByteArray) (maxL : Nat) (ret : Option FieldType) (d : Nat) (b : jB) (av : List Value) (h : jH) (post : Option Value → jH → Prop) : Prop :=
  ∀ (l : Launch) (g : jG), Met l y (Cond.code y cc maxL ret :: jT) (jroom d b) (va_Pc (av.map (jval g)) (fun U => jRep g h U.heap ∧ (b.isSome = true → U.heap.size = g.1 + h.length) ∧ jK g U U.heap)) (jQc g b post) (jbk b) (jbn b) (jA g)
def jRet (X : jX) (ret : Option FieldType) (b : jB) (post : Option Value → jH → Prop) : Prop := match X with
  | (_, g, _, _, R, s, _, args, below, meth, _, Q) => meth.sig.returnType = ret ∧ R.cells = jbk b ∧ R.slots = jbn b ∧ Q = MQ below (jQc g b post) args s (jbk b) (jbn b) (jA g)
def jInit (X : jX) : Prop := match X with
  | (_, _, _, _, _, _, _, _, _, meth, _, _) => meth.name = "<init>"
/-- a contract out of a walk -/
theorem jM.of {y : MethodName} {cc : ByteArray} {maxL : Nat} {ret : Option FieldType} {d : Nat} {b : jB} {av : List Value} {h : jH} {post : Option Value → jH → Prop} (hy : plainName y.cls = true) (hav : av.all (fun v => v.category == 1) = true) (hl : av.length ≤ maxL)
    (body : ∀ X : jX, jRet X ret b post → (y.name = "<init>" → jInit X) → jV cc y.cls d X b 0 (av.map some ++ List.replicate (maxL - av.length) none) [] h) : jM y cc maxL ret d b av h post := by
  intro l g
  refine Met.ofW (cc := cc) (maxL := maxL) (ret := ret) hy rfl ?_
  intro p e s m args below meth c s₁ B hml hv
  obtain ⟨rfl, hR, hz, hK⟩ := hv
  have hcat : ∀ v ∈ av, v.category = 1 := fun v hv => by simpa using List.all_eq_true.mp hav v hv
  have e1 : ∀ vs : List Value, (∀ v ∈ vs, v.category = 1) → lg_sl (vs.map (jval g)) = vs.map (fun v => Slot.val (jval g v)) := by
    intro vs
    induction vs with
    | nil => intro _; rfl
    | cons v vs ih =>
      intro hc
      have h1 : ¬ (jval g v).category = 2 := by rw [jval_cat, hc v List.mem_cons_self]; decide
      have h2 := ih (fun w hw => hc w (List.mem_cons_of_mem _ hw))
      simp only [lg_sl, List.map_cons, List.flatMap_cons, h1, if_false] at h2 ⊢
      rw [h2]; rfl
  have e2 : ∀ (vs : List Value) (k : Nat), (∀ v ∈ vs, v.category = 1) → ∀ (i : Nat) (v : Value), vs[i]? = some v → (k + i, jval g v) ∈ lv_args k (vs.map (jval g)) := by
    intro vs
    induction vs with
    | nil => intro k _ i v h; simp at h
    | cons w vs ih =>
      intro k hc i v h
      have h1 : ¬ (jval g w).category = 2 := by rw [jval_cat, hc w List.mem_cons_self]; decide
      simp only [List.map_cons, lv_args, h1, if_false]
      cases i with
      | zero => simp at h; subst h; exact List.mem_cons_self
      | succ i =>
        have := ih (k + 1) (fun w hw => hc w (List.mem_cons_of_mem _ hw)) i v (by simpa using h)
        rw [show k + (i + 1) = k + 1 + i by omega]
        exact List.mem_cons_of_mem _ this
  have hlen : (lg_sl (av.map (jval g))).length = av.length := by rw [e1 av hcat]; simp
  have hent := lv_entry (av.map (jval g)) (n := maxL) (by rw [hlen]; exact hl)
  rw [lg_entry_eq]
  refine body (l, g, p, e, jroom d b, s, m, (av.map (jval g)).toArray, below, meth, c, MQ below (jQc g b post) (av.map (jval g)).toArray s (jbk b) (jbn b) (jA g)) ⟨B.returns, rfl, rfl, rfl⟩ (fun hi => (name_of_methodNamed B.named B.method).1.trans hi)
    ⟨B.exec, B.bytes, findClass_of_methodNamed B.named, fun w hw => atoms_spec (ws := Cond.code y cc maxL ret :: jT) B.pre w (List.mem_cons_of_mem _ hw), B.notSynchronized, Nat.le_refl _, Nat.le_refl _, hK⟩ s.heap [] _ 0 0 (by simp [jroom]) (by simp [jroom]) hR hz va_S.rf ⟨by simp; omega, ?_⟩
  rw [hml]
  refine ⟨hent.1, hent.2.1, fun q hq => hent.2.2 q ?_⟩
  obtain ⟨v, h1, h2⟩ := jal_of hq
  have h3 : av[q.1]? = some v := by
    by_cases hi : q.1 < av.length
    · rw [List.getElem?_append_left (by simp; exact hi), List.getElem?_map] at h1
      cases h4 : av[q.1]? with
      | none => rw [h4] at h1; cases h1
      | some w => rw [h4] at h1; cases h1; rfl
    · rw [List.getElem?_append_right (by simp; omega)] at h1
      have := List.eq_of_mem_replicate (List.mem_of_getElem? h1)
      cases this
  have h5 := e2 av 0 hcat q.1 v h3
  rw [Nat.zero_add, ← h2] at h5
  exact h5
/-- a contract may promise less -/
theorem jM.weak {y : MethodName} {cc : ByteArray} {maxL : Nat} {ret : Option FieldType} {d : Nat} {b : jB} {av : List Value} {h : jH} {post post' : Option Value → jH → Prop} (hM : jM y cc maxL ret d b av h post) (hp : ∀ v h', post v h' → post' v h') : jM y cc maxL ret d b av h post' := by
  intro l g p e ha hc hk s m args below hf hap hP hK
  obtain ⟨k, o, h1, h2, h3, ⟨⟨v, h', q1, q2, q3⟩, q4⟩, q5⟩ := hM l g p e ha hc hk s m args below hf hap hP hK
  exact ⟨k, o, h1, h2, h3, ⟨⟨v, h', q1, hp v h' q2, q3⟩, q4⟩, q5⟩
section JV
variable {cc : ByteArray} {own : String} {d : Nat} {X : jX} {b : jB} {pc : Nat} {ls : List (Option Value)} {st : List Value} {h : jH}
/-- nothing more is made -/
theorem e_none (k : jV cc own d X none pc ls st h) : jV cc own d X b pc ls st h := by
  obtain ⟨l, g, p, e, R, s, m, args, below, meth, c, Q⟩ := X
  intro ok H locs a k' n' h1 h2 hR hz hS hL
  exact k ok H locs a k' n' (by simp [jbk]; omega) (by simp [jbn]; omega) hR (fun z => by cases z) hS hL
end JV
