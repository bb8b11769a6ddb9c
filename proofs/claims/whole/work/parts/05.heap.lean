/-! rows of the judgement that read and write cells, make them, call and return -/
/-- what a class' table says -/
def jCl (ci : Nat) (C : String) (T : u_T) (N : Nat) (ty : Nat → FieldType) : Prop := vwCl[ci]? = some (C, T, N) ∧ (∀ w ∈ u_ws C T N, w ∈ jT) ∧ (∀ k, k < N → parseFieldDescriptor (T k).2.2.1 = some (ty k)) ∧ (∀ a, a < N → ∀ b, b < N → a ≠ b → (T a).2.1 ≠ (T b).2.1)
/-- a field by the pool of a class: class number, place, type, final -/
def jFl (own : String) (i ci k : Nat) (t : FieldType) (fin : Bool) : Prop := ∃ (C : String) (T : u_T) (N : Nat) (ty : Nat → FieldType), jCl ci C T N ty ∧ k < N ∧ Cond.fieldLink own i (T k).1 (T k).2.1 (T k).2.2.1 ∈ jT ∧ ty k = t ∧ (T k).2.2.2 = fin ∧ (T k).1 = C
/-- calls by the pool of a class -/
def jCv (own : String) (i : Nat) (y : MethodName) (yc : ByteArray) (maxL : Nat) (ret : Option FieldType) (np : Nat) : Prop := Cond.methodLink own i y ∈ jT ∧ Cond.instanceMethod y ∈ jT ∧ Cond.selects y.cls y y ∈ jT ∧ Cond.initialized y.cls ∈ jT ∧ Cond.code y yc maxL ret ∈ jT ∧ (y.cls ≠ "java/lang/invoke/MethodHandle" ∧ y.cls ≠ "java/lang/invoke/VarHandle" ∧ (parseMethodDescriptor y.desc).map (fun d => d.parameters.length) = some np) ∧ maxL ≤ 40
def jCs (own : String) (i : Nat) (y : MethodName) (yc : ByteArray) (maxL : Nat) (ret : Option FieldType) (np : Nat) : Prop := Cond.methodLink own i y ∈ jT ∧ Cond.static y ∈ jT ∧ Cond.initialized y.cls ∈ jT ∧ Cond.code y yc maxL ret ∈ jT ∧ (y.cls ≠ "java/lang/invoke/MethodHandle" ∧ y.cls ≠ "java/lang/invoke/VarHandle" ∧ (parseMethodDescriptor y.desc).map (fun d => d.parameters.length) = some np) ∧ maxL ≤ 40
def jCi (own : String) (i : Nat) (y : MethodName) (yc : ByteArray) (maxL : Nat) (np : Nat) : Prop := Cond.methodLink own i y ∈ jT ∧ Cond.instanceMethod y ∈ jT ∧ Cond.initialized y.cls ∈ jT ∧ Cond.code y yc maxL none ∈ jT ∧ y.name = "<init>" ∧ (y.cls ≠ "java/lang/invoke/MethodHandle" ∧ y.cls ≠ "java/lang/invoke/VarHandle" ∧ (parseMethodDescriptor y.desc).map (fun d => d.parameters.length) = some np) ∧ maxL ≤ 40
/-- a private static of a nest mate -/
def jCn (own : String) (i : Nat) (y : MethodName) (host : String) (yc : ByteArray) (maxL : Nat) (ret : Option FieldType) (np : Nat) : Prop := (∀ (g : jG) (U : State) (H : Heap), jK g U H → va_Nw (.methodLinkNest own i y host) U) ∧ Cond.static y ∈ jT ∧ Cond.initialized y.cls ∈ jT ∧ Cond.code y yc maxL ret ∈ jT ∧ (y.cls ≠ "java/lang/invoke/MethodHandle" ∧ y.cls ≠ "java/lang/invoke/VarHandle" ∧ (parseMethodDescriptor y.desc).map (fun d => d.parameters.length) = some np) ∧ maxL ≤ 40
def jBud (b bc b' : jB) : Prop := jbk b = jbk b' + jbk bc ∧ jbn b = jbn b' + jbn bc ∧ bc.isSome = b.isSome ∧ b'.isSome = b.isSome
theorem jBud0 : jBud none none none := ⟨rfl, rfl, rfl, rfl⟩
theorem jBud1 {k n mc ms : Nat} : jBud (some (k + mc, n + ms)) (some (mc, ms)) (some (k, n)) := ⟨rfl, rfl, rfl, rfl⟩
section JE
variable {cc : ByteArray} {own : String} {d : Nat} {X : jX} {b : jB} {pc : Nat} {ls : List (Option Value)} {st : List Value} {h : jH}
theorem e_get {i o ci k : Nat} {t : FieldType} {fin : Bool} {fs : List Value} {v : Value} (hd : decode cc pc = .ok (.getfield i, 3)) (hf : jFl own i ci k t fin) (hc : h[o]? = some (jO ci fs)) (hv : fs[k]? = some v)
    (k : jV cc own d X b (pc + 3) ls (v :: st) h) : jV cc own d X b pc ls (.ref o :: st) h := by
  obtain ⟨l, g, p, e, R, s, m, args, below, meth, c, Q⟩ := X
  intro ok H locs a k' n' h1 h2 hR hz hS hL
  obtain ⟨C, T, N, ty, ⟨f1, f2, f3, f4⟩, f5, f6, f7, f8, f9⟩ := hf
  exact va_get ok.1 ok.2.1 ok.2.2.2.1 f2 ok.2.2.1 ok.2.2.2.2.2.2.2.1 hR.2 o (jws_at hc) f1 _ f5 (ok.2.2.2.1 _ f6) (fun x hx => hx) (v := jval g v) (by rw [List.getElem?_map, hv]; rfl) hd (k ok H locs a k' n' h1 h2 hR hz hS hL)
theorem e_put {i o ci k : Nat} {t : FieldType} {fs : List Value} {v : Value} (hd : decode cc pc = .ok (.putfield i, 3)) (hf : jFl own i ci k t false) (hc : h[o]? = some (jO ci fs)) (hl : k < fs.length) (hv : ∀ g : jG, narrow t (jval g v) = jval g v ∧ fits t (jval g v) = true)
    (kk : jV cc own d X b (pc + 3) ls st (h.set o (jO ci (fs.set k v)))) : jV cc own d X b pc ls (v :: .ref o :: st) h := by
  obtain ⟨l, g, p, e, R, s, m, args, below, meth, c, Q⟩ := X
  intro ok H locs a k' n' h1 h2 hR hz hS hL
  obtain ⟨C, T, N, ty, ⟨f1, f2, f3, f4⟩, f5, f6, rfl, f8, f9⟩ := hf
  have hap := va_apart (own := own) ok.2.2.2.1 f2 ty f3 f4 ok.2.2.2.2.2.2.2.1 f1
  obtain ⟨r, q0, cell, q1, q2, q3, q4⟩ := hR.2 o _ (jws_at hc)
  have hr : r = (C, T, N) := Option.some.inj (q0.symm.trans f1)
  subst hr
  obtain ⟨hSl, hfc, kC, hkC, hkind⟩ := ok.2.2.2.2.2.2.2.1.1 ci _ f1
  obtain ⟨cf, kf, fi, f, hi, hsl⟩ := hSl k f5
  have hlay := ok.2.2.2.1 _ (f2 _ (u_in_lay f5))
  unfold u_lay at hlay
  rw [if_neg (by rw [f8]; decide)] at hlay
  have hst := (u_facts hfc hkC (u_lays ok.2.2.2.1 f2 f5) hi).1
  have h6 := u_store hfc hkC hkind hlay hi (f3 k f5) (hv g).1 (hv g).2
  refine W.putK ok.1 ok.2.1 (f := f) ⟨ok.2.2.1, ok.2.2.2.1 _ f6, ⟨_, _, _, hi⟩, hst⟩ (by rw [q2]; exact h6) q1 q3 (by rw [hsl]; exact k2_hasslot (q4 k f5)) rfl rfl hd fun H' e1 e2 e3 => ?_
  rw [hsl] at e1 ⊢
  have hat : va_at g.2.2.1 vwCl (jad g o, jcell g (jO ci (fs.set k v))) H' := by
    refine ⟨_, f1, t_OB.to (V := updV (vp_V (fs.map (jval g))) k (jval g v)) ⟨_, e1, q2, q3, t_set q4 hap f5 _⟩ (fun j _ => ?_)⟩
    show updV (vp_V (fs.map (jval g))) k (jval g v) j = vp_V ((fs.set k v).map (jval g)) j
    rw [List.map_set]
    exact vp_updV_set (by simpa using hl) _ j
  exact kk ok H' _ a k' n' h1 h2 (jRep_set hR hc hat e3) (fun z => by rw [e2, hz z]; simp) (hS.put e2 e3 ((jws_D hR.1).2 o _ (jws_at hc))) hL
theorem e_putF {i o ci k : Nat} {t : FieldType} {fs : List Value} {v : Value} (hd : decode cc pc = .ok (.putfield i, 3)) (hf : jFl own i ci k t true) (hX : jInit X) (hown : ∀ C T N, vwCl[ci]? = some (C, T, N) → C = own) (hc : h[o]? = some (jO ci fs)) (hl : k < fs.length) (hv : ∀ g : jG, narrow t (jval g v) = jval g v ∧ fits t (jval g v) = true)
    (kk : jV cc own d X b (pc + 3) ls st (h.set o (jO ci (fs.set k v)))) : jV cc own d X b pc ls (v :: .ref o :: st) h := by
  obtain ⟨l, g, p, e, R, s, m, args, below, meth, c, Q⟩ := X
  intro ok H locs a k' n' h1 h2 hR hz hS hL
  obtain ⟨C, T, N, ty, ⟨f1, f2, f3, f4⟩, f5, f6, rfl, f8, f9⟩ := hf
  have hC := hown C T N f1
  have hap := va_apart (own := own) ok.2.2.2.1 f2 ty f3 f4 ok.2.2.2.2.2.2.2.1 f1
  obtain ⟨r, q0, cell, q1, q2, q3, q4⟩ := hR.2 o _ (jws_at hc)
  have hr : r = (C, T, N) := Option.some.inj (q0.symm.trans f1)
  subst hr
  obtain ⟨hSl, hfc, kC, hkC, hkind⟩ := ok.2.2.2.2.2.2.2.1.1 ci _ f1
  obtain ⟨cf, kf, fi, f, hi, hsl⟩ := hSl k f5
  have hlay := ok.2.2.2.1 _ (f2 _ (u_in_lay f5))
  unfold u_lay at hlay
  rw [if_pos f8] at hlay
  have hst := (u_facts hfc hkC (u_lays ok.2.2.2.1 f2 f5) hi).1
  have hcf : m.cls = cf := by
    obtain ⟨_, _, c', _, _, _, -, -, hf', -, -, -, hown2, -⟩ := Cond.laysFinal_spec hlay
    have e1 : c' = cf := by have := hi.symm.trans hf'; simp at this; exact this.1.symm
    rw [f9, hC] at hown2
    rw [← e1]; exact Option.some.inj (ok.2.2.1.symm.trans hown2)
  have h6 := u_fits hfc hkC hkind (Or.inr hlay) hi (f3 k f5) (hv g).1 (hv g).2
  refine W.putFinK ok.1 ok.2.1 ok.2.2.1 (ok.2.2.2.1 _ f6) hi hst hcf hX (by rw [q2]; exact h6) q1 q3 (by rw [hsl]; exact k2_hasslot (q4 k f5)) rfl rfl hd fun H' e1 e2 e3 => ?_
  rw [hsl] at e1 ⊢
  have hat : va_at g.2.2.1 vwCl (jad g o, jcell g (jO ci (fs.set k v))) H' := by
    refine ⟨_, f1, t_OB.to (V := updV (vp_V (fs.map (jval g))) k (jval g v)) ⟨_, e1, q2, q3, t_set q4 hap f5 _⟩ (fun j _ => ?_)⟩
    show updV (vp_V (fs.map (jval g))) k (jval g v) j = vp_V ((fs.set k v).map (jval g)) j
    rw [List.map_set]
    exact vp_updV_set (by simpa using hl) _ j
  exact kk ok H' _ a k' n' h1 h2 (jRep_set hR hc hat e3) (fun z => by rw [e2, hz z]; simp) (hS.put e2 e3 ((jws_D hR.1).2 o _ (jws_at hc))) hL
theorem e_iald {o n : Nat} {f : Nat → Int32} {i : Int32} (hd : decode cc pc = .ok (.iaload, 1)) (hc : h[o]? = some (jI n f)) (hi : vp_in i n) (k : jV cc own d X b (pc + 1) ls (.int (f i.toNatClampNeg) :: st) h) : jV cc own d X b pc ls (.int i :: .ref o :: st) h := by
  obtain ⟨l, g, p, e, R, s, m, args, below, meth, c, Q⟩ := X
  intro ok H locs a k' n' h1 h2 hR hz hS hL
  exact va_iald ok.1 ok.2.1 ok.2.2.2.2.2.2.2.1 hR.2 o 0 (jws_at hc) rfl hi hd (k ok H locs a k' n' h1 h2 hR hz hS hL)
theorem e_zald {o n : Nat} {f : Nat → Int32} {i : Int32} (hd : decode cc pc = .ok (.baload, 1)) (hc : h[o]? = some (jZ n f)) (hi : vp_in i n) (k : jV cc own d X b (pc + 1) ls (.int (f i.toNatClampNeg) :: st) h) : jV cc own d X b pc ls (.int i :: .ref o :: st) h := by
  obtain ⟨l, g, p, e, R, s, m, args, below, meth, c, Q⟩ := X
  intro ok H locs a k' n' h1 h2 hR hz hS hL
  exact va_zald ok.1 ok.2.1 ok.2.2.2.2.2.2.2.1 hR.2 o 1 (jws_at hc) rfl hi hd (k ok H locs a k' n' h1 h2 hR hz hS hL)
theorem e_aald {o n q : Nat} {f : Nat → Option Nat} {i : Int32} (hd : decode cc pc = .ok (.aaload, 1)) (hc : h[o]? = some (jR n f)) (hi : vp_in i n) (hq : f i.toNatClampNeg = some q) (k : jV cc own d X b (pc + 1) ls (.ref q :: st) h) : jV cc own d X b pc ls (.int i :: .ref o :: st) h := by
  obtain ⟨l, g, p, e, R, s, m, args, below, meth, c, Q⟩ := X
  intro ok H locs a k' n' h1 h2 hR hz hS hL
  refine va_aldq ok.1 ok.2.1 ok.2.2.2.2.2.2.2.1 hR.2 o 2 (jws_at hc) rfl hi hd ?_
  have e1 : va_rf ((f i.toNatClampNeg).map (jad g)) = jval g (.ref q) := by rw [hq]; rfl
  rw [e1]
  exact k ok H locs a k' n' h1 h2 hR hz hS hL
theorem jarr_at {n : Nat} {i : Int32} (hi : vp_in i n) : ¬ (i < 0 ∨ n ≤ i.toNatClampNeg) := hi
theorem e_iast {o n : Nat} {f : Nat → Int32} {i x : Int32} (hd : decode cc pc = .ok (.iastore, 1)) (hc : h[o]? = some (jI n f)) (hi : vp_in i n) (k : jV cc own d X b (pc + 1) ls st (h.set o (jI n (upd f i.toNatClampNeg x)))) : jV cc own d X b pc ls (.int x :: .int i :: .ref o :: st) h := by
  obtain ⟨l, g, p, e, R, s, m, args, below, meth, c, Q⟩ := X
  intro ok H locs a k' n' h1 h2 hR hz hS hL
  have hcell : H[jad g o]? = some (vp_cell g.2.2.2.1 (n, .inl f)) := hR.2 o _ (jws_at hc)
  refine W.iast ok.1 ok.2.1 hcell ((ok.2.2.2.2.2.2.2.1.2 0 _ rfl).1 n (fun j => .int (f j))) (fun q => by cases q) (by show ¬ (i < 0 ∨ (arrV _ _ _).slots.size ≤ _); rw [arrV_size]; exact hi) rfl rfl hd fun H' e1 e2 e3 => ?_
  have hat : va_at g.2.2.1 vwCl (jad g o, jcell g (jI n (upd f i.toNatClampNeg x))) H' := by
    show H'[jad g o]? = some (vp_cell _ _)
    rw [e1]
    show some (Cell.setSlot (vp_cell _ (n, .inl f)) _ _) = some (vp_cell _ (n, .inl _))
    rw [vp_cell_i, vp_cell_i, arrV_store]
    congr 2
    funext q
    by_cases hq : q = i.toNatClampNeg
    · subst hq; simp [updV, upd]
    · simp [updV, upd, hq]
  exact k ok H' _ a k' n' h1 h2 (jRep_set hR hc hat e3) (fun z => by rw [e2, hz z]; simp) (hS.put e2 e3 ((jws_D hR.1).2 o _ (jws_at hc))) hL
theorem e_zast {o n : Nat} {f : Nat → Int32} {i x : Int32} (hd : decode cc pc = .ok (.bastore, 1)) (hc : h[o]? = some (jZ n f)) (hi : vp_in i n) (hx : narrow .boolean (.int x) = .int x) (k : jV cc own d X b (pc + 1) ls st (h.set o (jZ n (upd f i.toNatClampNeg x)))) : jV cc own d X b pc ls (.int x :: .int i :: .ref o :: st) h := by
  obtain ⟨l, g, p, e, R, s, m, args, below, meth, c, Q⟩ := X
  intro ok H locs a k' n' h1 h2 hR hz hS hL
  have hcell : H[jad g o]? = some (vp_cell g.2.2.2.2.1 (n, .inl f)) := hR.2 o _ (jws_at hc)
  refine W.zast ok.1 ok.2.1 hcell ((ok.2.2.2.2.2.2.2.1.2 1 _ rfl).1 n (fun j => .int (f j))) (fun q => by cases q) (by show ¬ (i < 0 ∨ (arrV _ _ _).slots.size ≤ _); rw [arrV_size]; exact hi) rfl rfl hd fun H' e1 e2 e3 => ?_
  have hat : va_at g.2.2.1 vwCl (jad g o, jcell g (jZ n (upd f i.toNatClampNeg x))) H' := by
    show H'[jad g o]? = some (vp_cell _ _)
    rw [e1, hx]
    show some (Cell.setSlot (vp_cell _ (n, .inl f)) _ _) = some (vp_cell _ (n, .inl _))
    rw [vp_cell_i, vp_cell_i, arrV_store]
    congr 2
    funext q
    by_cases hq : q = i.toNatClampNeg
    · subst hq; simp [updV, upd]
    · simp [updV, upd, hq]
  exact k ok H' _ a k' n' h1 h2 (jRep_set hR hc hat e3) (fun z => by rw [e2, hz z]; simp) (hS.put e2 e3 ((jws_D hR.1).2 o _ (jws_at hc))) hL
theorem e_aast {o n v : Nat} {f : Nat → Option Nat} {i : Int32} {fs : List Value} (hd : decode cc pc = .ok (.aastore, 1)) (hc : h[o]? = some (jR n f)) (hi : vp_in i n) (hq : h[v]? = some (jO 3 fs)) (k : jV cc own d X b (pc + 1) ls st (h.set o (jR n (va_up f i.toNatClampNeg (some v))))) : jV cc own d X b pc ls (.ref v :: .int i :: .ref o :: st) h := by
  obtain ⟨l, g, p, e, R, s, m, args, below, meth, c, Q⟩ := X
  intro ok H locs a k' n' h1 h2 hR hz hS hL
  have hlt : i.toNatClampNeg < n := Nat.not_le.mp fun q => hi (Or.inr q)
  have h0 : ¬ i < 0 := fun q => hi (Or.inl q)
  obtain ⟨r', hr', cellV, g1, g2, g3, -⟩ := hR.2 v _ (jws_at hq)
  have hcls := (ok.2.2.2.2.2.2.2.1.1 3 _ rfl).2
  obtain ⟨kA, comp, k1, k2, k3, -⟩ := (ok.2.2.2.2.2.2.2.1.2 2 _ rfl).2
  have hcomp : comp = g.2.2.1.1 3 := Option.some.inj (k3.symm.trans hcls.1)
  subst hcomp
  obtain ⟨kC, hkC, -⟩ := id hcls.2
  have hcell : H[jad g o]? = some (vp_cell g.2.2.2.2.2 (n, .inr (.inr (.inr (.inr (fun k => (f k).map (jad g))))))) := hR.2 o _ (jws_at hc)
  refine W.aast ok.1 ok.2.1 hcell (fun q h => by cases h) (fun h => by cases h) k1 k2 rfl hkC ⟨h0, by show _ < (arrV _ _ _).slots.size; rw [arrV_size]; exact hlt⟩ g1 (fun q h => by rw [g3] at h; cases h) (by rw [g2]; exact hkC) (by rw [g2]; exact va_assign hcls) rfl rfl hd fun H' e1 e2 e3 => ?_
  have hat : va_at g.2.2.1 vwCl (jad g o, jcell g (jR n (va_up f i.toNatClampNeg (some v)))) H' := by
    show H'[jad g o]? = some (vp_cell _ _)
    rw [e1]
    show some (Cell.setSlot (vp_cell _ (n, .inr (.inr (.inr (.inr (fun k => (f k).map (jad g))))))) _ _) = some (vp_cell _ (n, .inr (.inr (.inr (.inr _)))))
    rw [vp_cell_q, vp_cell_q, arrV_store]
    congr 2
    funext q
    by_cases hq : q = i.toNatClampNeg
    · subst hq; simp [updV, va_up, va_rf]
    · simp [updV, va_up, hq]
  exact k ok H' _ a k' n' h1 h2 (jRep_set hR hc hat e3) (fun z => by rw [e2, hz z]; simp) (hS.put e2 e3 ((jws_D hR.1).2 o _ (jws_at hc))) hL
end JE
