/-- a static table, out of what the Statement gives of the start -/
theorem tab_of {args : Array Value} {s : State} {C n : String} {N : Nat} {vs : List Int32} (hN : N < 100) (hl : (Cond.laysStatic C n "[I").before args s = true) (hini : (Cond.initialized C).before args s = true) (harr : (Cond.arrayOf (.static C n "[I") .int).before args s = true) (hlen : (Cond.eq (.length (.static C n "[I")) (.int (Int32.ofNat N))).before args s = true) (hel : ∀ j : Nat, j < N → (Cond.eq (.elem (.static C n "[I") (.int (Int32.ofNat j))) (.int (vs.getD j 0))).before args s = true) : ∃ t : Nat, t < s.heap.size ∧ va_Z C n "[I" (.ref t) (fun q => s.heap.size ≤ q) s s.heap ∧ va_T .int t N (fun k => .int (vs.getD k 0)) (fun q => s.heap.size ≤ q) s s.heap := by
  have hA : ∀ a : Nat, a < s.heap.size → ¬ (fun q => s.heap.size ≤ q) a := fun a h => Nat.not_le.mpr h
  obtain ⟨t, e1, e2⟩ := va_Tof (A := fun q => s.heap.size ≤ q) (N := N) (f := fun k => .int (vs.getD k 0)) (by omega) harr (va_eqt hlen) (fun j hj => va_eqt (hel j hj)) hA
  have lt : t < s.heap.size := by
    obtain ⟨cell, h1, -⟩ := e2
    exact (Array.getElem?_eq_some_iff.mp h1).1
  exact ⟨t, lt, va_Zref hl hini e1 hA, e2⟩
theorem arr_of {args : Array Value} {s : State} {ty : FieldType} (hty : ∀ C, ty ≠ .object C) (h : (Cond.arrayClass ty).before args s = true) : ∃ cA, ArrOfT s cA ty ∧ va_RA s cA ty := by
  obtain ⟨cA, kA, comp, h1, h2, h3⟩ := Cond.arrayClass_spec h
  refine ⟨cA, fun n z => ⟨(fun k h => by cases h), kA, h2, comp, h3⟩, ?_⟩
  cases ty with
  | object C => exact absurd rfl (hty C)
  | _ => exact h1
theorem arr_obj {s : State} {C : String} (h : va_AO C s) : ∃ cA, ArrOfT s cA (.object C) ∧ va_RA s cA (.object C) := by
  obtain ⟨comp, c, k, h1, h2, h3, h4, h5⟩ := Cond.arrayOver_spec h
  exact ⟨c, fun n z => ⟨(fun k h => by cases h), k, h3, comp, h4⟩, k, comp, h3, h4, h1, h5⟩
set_option maxHeartbeats 8000000 in
set_option maxRecDepth 100000 in
theorem whole_start {p : Program} {e : Env} {s : State} {m : MethodId} {below : List Frame} {meth : Method} {c : Code} (l : Launch) {b L : Nat} {xs : Nat → Int32} (hL : L ≤ 384) (C0 : lw_At p s m meth c b L xs) : W p l e room_1 s m #[Value.ref b] below meth c s.heap [] 0 0 (lw_Z below #[Value.ref b] s) (entryFrame m ([Value.ref b] : List Value).toArray 4) := by
  obtain ⟨hx, hb, hr, hml, hown, hts, hX, hbl, hlocks, hgv⟩ := id C0
  have hg := flat_of_before _ hgv
  obtain ⟨t0, lt0, z0, T0⟩ := tab_of (args := #[Value.ref b]) (s := s) (C := "BellowsWords$Foreteller") (n := "LEAST_SUPPOSED") (N := 5) (vs := [1, 0, 0, 0, 0]) (by decide) (hts (.laysStatic "BellowsWords$Foreteller" "LEAST_SUPPOSED" "[I") (by decide +kernel)) (hts (.initialized "BellowsWords$Foreteller") (by decide +kernel)) (hg _ (by decide +kernel)) (hg _ (by decide +kernel)) (fun j hj => by
    rcases (show j = 0 ∨ j = 1 ∨ j = 2 ∨ j = 3 ∨ j = 4 by omega) with rfl | rfl | rfl | rfl | rfl <;> exact hg _ (by decide +kernel))
  obtain ⟨t1, lt1, z1, T1⟩ := tab_of (args := #[Value.ref b]) (s := s) (C := "BellowsWords$Foreteller") (n := "MOST_SUPPOSED") (N := 5) (vs := [5, 15, 1, 40, 40]) (by decide) (hts (.laysStatic "BellowsWords$Foreteller" "MOST_SUPPOSED" "[I") (by decide +kernel)) (hts (.initialized "BellowsWords$Foreteller") (by decide +kernel)) (hg _ (by decide +kernel)) (hg _ (by decide +kernel)) (fun j hj => by
    rcases (show j = 0 ∨ j = 1 ∨ j = 2 ∨ j = 3 ∨ j = 4 by omega) with rfl | rfl | rfl | rfl | rfl <;> exact hg _ (by decide +kernel))
  obtain ⟨t2, lt2, z2, T2⟩ := tab_of (args := #[Value.ref b]) (s := s) (C := "BellowsWords") (n := "PARENT") (N := 6) (vs := [-1, 0, 1, 1, 0, 4]) (by decide) (hts (.laysStatic "BellowsWords" "PARENT" "[I") (by decide +kernel)) (hts (.initialized "BellowsWords") (by decide +kernel)) (hg _ (by decide +kernel)) (hg _ (by decide +kernel)) (fun j hj => by
    rcases (show j = 0 ∨ j = 1 ∨ j = 2 ∨ j = 3 ∨ j = 4 ∨ j = 5 by omega) with rfl | rfl | rfl | rfl | rfl | rfl <;> exact hg _ (by decide +kernel))
  obtain ⟨t3, lt3, z3, T3⟩ := tab_of (args := #[Value.ref b]) (s := s) (C := "BellowsWords$Asker") (n := "SIZE_BODY") (N := 6) (vs := [10, 11, 12, 11, 13, 14]) (by decide) (hts (.laysStatic "BellowsWords$Asker" "SIZE_BODY" "[I") (by decide +kernel)) (hts (.initialized "BellowsWords$Asker") (by decide +kernel)) (hg _ (by decide +kernel)) (hg _ (by decide +kernel)) (fun j hj => by
    rcases (show j = 0 ∨ j = 1 ∨ j = 2 ∨ j = 3 ∨ j = 4 ∨ j = 5 by omega) with rfl | rfl | rfl | rfl | rfl | rfl <;> exact hg _ (by decide +kernel))
  obtain ⟨t4, lt4, z4, T4⟩ := tab_of (args := #[Value.ref b]) (s := s) (C := "BellowsWords$Asker") (n := "MARK_BODY") (N := 6) (vs := [20, 21, 24, 22, 23, 23]) (by decide) (hts (.laysStatic "BellowsWords$Asker" "MARK_BODY" "[I") (by decide +kernel)) (hts (.initialized "BellowsWords$Asker") (by decide +kernel)) (hg _ (by decide +kernel)) (hg _ (by decide +kernel)) (fun j hj => by
    rcases (show j = 0 ∨ j = 1 ∨ j = 2 ∨ j = 3 ∨ j = 4 ∨ j = 5 by omega) with rfl | rfl | rfl | rfl | rfl | rfl <;> exact hg _ (by decide +kernel))
  have hAO : va_AO "BellowsWords$House" s := va_AO.of (hts (.arrayOver (.object "BellowsWords$House")) (by decide +kernel))
  obtain ⟨cI, aI, rI⟩ := arr_of (ty := .int) (fun C z => by cases z) (hts (.arrayClass .int) (by decide +kernel))
  obtain ⟨cZ, aZ, rZ⟩ := arr_of (ty := .boolean) (fun C z => by cases z) (hts (.arrayClass .boolean) (by decide +kernel))
  obtain ⟨cO, aO, rO⟩ := arr_obj hAO
  have hT : ∀ w ∈ jT, w.before #[Value.ref b] s = true := fun w hw => hts w (List.mem_filter.mp hw).1
  obtain ⟨c0, i0, kn0⟩ := u_known (C := RX0) (T := TX0) (N := 3) (n := 3) hT u_in_X0 (hT _ mkX0)
  obtain ⟨c1, i1, kn1⟩ := u_known (C := RX1) (T := TX1) (N := 2) (n := 2) hT u_in_X1 (hT _ mkX1)
  obtain ⟨c2, i2, kn2⟩ := u_known (C := RX2) (T := TX2) (N := 3) (n := 3) hT u_in_X2 (hT _ mkX2)
  obtain ⟨c3, i3, kn3⟩ := u_known (C := RX3) (T := TX3) (N := 11) (n := 11) hT u_in_X3 (hT _ mkX3)
  obtain ⟨c4, i4, kn4⟩ := u_known (C := RX4) (T := TX4) (N := 3) (n := 3) hT u_in_X4 (hT _ mkX4)
  obtain ⟨c5, i5, kn5⟩ := u_known (C := RX5) (T := TX5) (N := 5) (n := 5) hT u_in_X5 (hT _ mkX5)
  obtain ⟨c6, i6, kn6⟩ := u_known (C := RX6) (T := TX6) (N := 8) (n := 8) hT u_in_X6 (hT _ mkX6)
  obtain ⟨c7, i7, kn7⟩ := u_known (C := RX7) (T := TX7) (N := 26) (n := 26) hT u_in_X7 (hT _ mkX7)
  obtain ⟨dC, dI, hKc⟩ : ∃ (dC : Nat → ClassId) (dI : Nat → Nat → Nat), ∀ (k : Nat) (q : vw_C), vwCl[k]? = some q → u_Kn s q.1 q.2.1 q.2.2 (dC k) (dI k) := by
    refine ⟨fun k => match k with | 0 => c0 | 1 => c1 | 2 => c2 | 3 => c3 | 4 => c4 | 5 => c5 | 6 => c6 | _ => c7, fun k => match k with | 0 => i0 | 1 => i1 | 2 => i2 | 3 => i3 | 4 => i4 | 5 => i5 | 6 => i6 | _ => i7, ?_⟩
    intro k q hq
    match k, hq with
    | 0, hq => cases hq; exact kn0
    | 1, hq => cases hq; exact kn1
    | 2, hq => cases hq; exact kn2
    | 3, hq => cases hq; exact kn3
    | 4, hq => cases hq; exact kn4
    | 5, hq => cases hq; exact kn5
    | 6, hq => cases hq; exact kn6
    | 7, hq => cases hq; exact kn7
    | k + 8, hq => simp [vwCl] at hq
  obtain ⟨tb, tb5, tb0, tb1, tb2, tb3, tb4⟩ : ∃ tb : Nat → Nat, tb 2000 = b ∧ tb 1000 = t0 ∧ tb 1001 = t1 ∧ tb 1002 = t2 ∧ tb 1003 = t3 ∧ tb 1004 = t4 := ⟨fun k => if k = 2000 then b else if k = 1000 then t0 else if k = 1001 then t1 else if k = 1002 then t2 else if k = 1003 then t3 else t4, rfl, rfl, rfl, rfl, rfl, rfl⟩
  have hK : jK (s.heap.size, tb, (dC, dI), cI, cZ, cO) s s.heap := by
    refine ⟨⟨hKc, fun k q hq => ?_⟩, fun j q hq => ?_, va_Nw.of rfl (hts (.methodLinkNest RX5 99 yX6_isWithin RX6) (by decide +kernel)), va_Nw.of rfl (hts (.methodLinkNest RX2 91 yX6_power RX6) (by decide +kernel)), hAO, Nat.le_refl _⟩
    · match k, hq with
      | 0, hq => cases hq; exact ⟨aI, rI⟩
      | 1, hq => cases hq; exact ⟨aZ, rZ⟩
      | 2, hq => cases hq; exact ⟨aO, rO⟩
      | k + 3, hq => simp [jtys] at hq
    · match j, hq with
      | 0, hq => cases hq; exact ⟨by show va_Z _ _ _ (.ref (tb 1000)) _ _ _; rw [tb0]; exact z0, by show va_T _ (tb 1000) _ _ _ _ _; rw [tb0]; exact T0⟩
      | 1, hq => cases hq; exact ⟨by show va_Z _ _ _ (.ref (tb 1001)) _ _ _; rw [tb1]; exact z1, by show va_T _ (tb 1001) _ _ _ _ _; rw [tb1]; exact T1⟩
      | 2, hq => cases hq; exact ⟨by show va_Z _ _ _ (.ref (tb 1002)) _ _ _; rw [tb2]; exact z2, by show va_T _ (tb 1002) _ _ _ _ _; rw [tb2]; exact T2⟩
      | 3, hq => cases hq; exact ⟨by show va_Z _ _ _ (.ref (tb 1003)) _ _ _; rw [tb3]; exact z3, by show va_T _ (tb 1003) _ _ _ _ _; rw [tb3]; exact T3⟩
      | 4, hq => cases hq; exact ⟨by show va_Z _ _ _ (.ref (tb 1004)) _ _ _; rw [tb4]; exact z4, by show va_T _ (tb 1004) _ _ _ _ _; rw [tb4]; exact T4⟩
      | j + 5, hq => simp [jtabs] at hq
  have hl := lv_entry ([.ref b]) (n := 4) (Nat.le_of_ble_eq_true rfl)
  rw [lg_entry_eq]
  generalize (lg_sl ([.ref b]) ++ List.replicate (4 - (lg_sl ([.ref b])).length) Slot.unset).toArray = ls at hl ⊢
  have hl : lv_has ls 4 [(0, .ref b)] := hl
  have start := law_start (X := (l, (s.heap.size, tb, (dC, dI), cI, cZ, cO), p, e, room_1, s, m, #[Value.ref b], below, meth, c, lw_Z below #[Value.ref b] s)) (bb := b) (L := L) (xs := xs) ⟨rfl, rfl, rfl, hr, tb5, hX, hbl, rfl⟩ hL
  refine start ⟨hx, hb, hown, hT, hlocks, by decide, by decide, hK⟩ s.heap [] ls 0 0 (by decide) (by decide) ⟨by decide, fun k q h => by simp [jws] at h⟩ (fun _ => rfl) va_S.rf ⟨by rw [hml]; rfl, ?_⟩
  rw [hml]
  refine ⟨hl.1, hl.2.1, fun q hq => hl.2.2 q ?_⟩
  have : jal (s.heap.size, tb, (dC, dI), cI, cZ, cO) [some (.ref 2000), none, none, none] = [(0, .ref b)] := by
    show [(0, Value.ref (jad _ 2000))] = _
    simp only [jad]
    rw [if_neg (by omega)]
    show [(0, Value.ref (tb 2000))] = _
    rw [tb5]
  rw [this] at hq
  exact hq
set_option maxHeartbeats 4000000 in
theorem lw_walk (l : Launch) (b : Addr) (xs : List Int32) : MetFree l x (headSpec (Jvm.Cond.code x code maxLocals ret :: tables_1) room_1) (lw_P b xs) (fun _ _ _ _ _ => True) lw_Q := by
  refine MetFree.of_bodyS (code := code) (maxLocals := maxLocals) (ret := ret) (by decide) ?_ ?_
  · intro args s m h hn
    obtain ⟨meth, c, h1, h2, h3, h4, h5, h6, -, -⟩ := Cond.code_spec hn (atoms_spec (ws := Jvm.Cond.code x code maxLocals ret :: tables_1) h _ List.mem_cons_self)
    exact ⟨meth, c, h1, h2, h3, h4, h5, h6⟩
  · intro p e s m args below meth c s₁ B hml0 hP _
    obtain ⟨rfl, hx, hbd, hgv⟩ := hP
    obtain ⟨scr, harrAt, hlist, hof, hsmall⟩ := hx
    obtain ⟨hcb, hkn, -, -⟩ := State.arrayAt?_spec harrAt
    have hown : s.vm.findClass R_law = some m.cls := findClass_of_methodNamed B.named
    have hts0 : ∀ c ∈ (Jvm.Cond.code x code maxLocals ret :: tables_1), c.before #[Value.ref b] s = true := atoms_spec (ws := Jvm.Cond.code x code maxLocals ret :: tables_1) B.pre
    have hts : ∀ w ∈ lw_tbl, w.before #[Value.ref b] s = true := k2_hts_sels lw_privs (fun w hw => hts0 w (List.mem_cons_of_mem _ hw)) lw_privs_ok
    have hml : c.maxLocals = 4 := B.maxLocals_eq (hts0 _ List.mem_cons_self)
    have X₀ : Stand p l e room_1 s m #[Value.ref b] below meth c s₁ [] 0 0 := Stand.of_body B
    have hh0 : s₁.heap = s.heap := by rw [B.state]; rfl
    have hsz : scr.slots.size = xs.length := by rw [← Array.length_toList, hlist, List.length_map]
    have hval : ∀ j : Nat, j < xs.length → scr.slots[j]? = some (.int (xs.getD j 0)) := fun j hj => by
      rw [← Array.getElem?_toList, hlist]
      simp [hj]
    have hbl : b < s.heap.size := (Array.getElem?_eq_some_iff.mp hcb).1
    have hX : va_X b xs.length (fun j => xs.getD j 0) s s.heap := ⟨scr, hcb, hof, hkn, hsz, hval⟩
    have K : W p l e room_1 s m #[Value.ref b] below meth c s₁.heap [] 0 0 (lw_Z below #[Value.ref b] s) (entryFrame m ([Value.ref b] : List Value).toArray 4) := by
      rw [hh0]
      exact whole_start l hbd ⟨B.exec, B.bytes, B.returns, hml, hown, hts, hX, hbl, B.notSynchronized, hgv⟩
    obtain ⟨t, a1, o, b1, b2, b3⟩ := K s₁ rfl X₀
    exact ⟨t, o, a1, b1, b2, b3⟩
theorem lw_pre_spec {args : Array Value} {s : State} (h : (Jvm.Cond.and given_1 narrow_1).before args s = true) (hr : rest_1_c.before args s = true) : ∃ (b : Addr) (xs : List Int32), lw_P b xs args s := by
  have hs := flat_of_before _ h
  have hq := flat_of_before _ hr
  have hc : (Cond.count 1).before args s = true := hs _ (by decide +kernel)
  have harr : (Cond.arrayOf (.arg 0) .int).before args s = true := hs _ (by decide +kernel)
  have hle : (Cond.le (.length (.arg 0)) (.int 384)).before args s = true := hs _ (by decide +kernel)
  have hlen : (Cond.isInt (.length (.arg 0))).before args s = true := hq _ (by decide +kernel)
  have hall : (Cond.all (.arg 0) (.isInt (.elem (.arg 0) (.index 0)))).before args s = true := hq _ (by decide +kernel)
  obtain ⟨b, xs, hb, hx⟩ := State.ints_of_pre rfl harr hlen hall
  have hsm : xs.length < 2 ^ 31 := hx.choose_spec.2.2.2
  have hev : (Term.length (.arg 0)).eval args s none [] s = some (.int xs.length.toInt32) := hx.length_eval hb
  have hv := Cond.le_ints hev (show (Term.int 384).eval args s none [] s = some (.int 384) from rfl)
  have hd : xs.length.toInt32 ≤ 384 := by
    simpa [Cond.before, Cond.holds, hv] using hle
  have hN : xs.length ≤ 384 := (Int32.ofNat_le_ofNat hsm (by decide)).mp (show Int32.ofNat xs.length ≤ Int32.ofNat 384 from hd)
  exact ⟨b, xs, Cond.one_arg hc (show args[0]? = some (.ref b) from hb), hx, hN, h⟩
theorem lw_comes (l : Launch) : Comes l x (Jvm.Cond.code x code maxLocals ret :: tables_1) room_1 (fun tb e args s => Calls_1 tb e args s ∧ rest_1 tb e args s ∧ Pre_1 tb e args s)
    (fun _ _ args s o t => lw_Q args s o t) := by
  intro p e ha hc hk s m args below hf hfit hheap happ hpre
  obtain ⟨b, xs, hP⟩ := lw_pre_spec hpre.2.2 hpre.2.1
  obtain ⟨k, o, h1, h2, h3, hQ⟩ := lw_walk l b xs p e ha hc hk s m args below hf ((Spec.applies_iff_loose hf).mp happ).1 hP trivial
  exact ⟨k, o, h1, h2, h3, hQ⟩
theorem lw_frame {s t : State} {o : Outcome} {args : Array Value} (h : Framed s o t [] 600000 7302250) :
    Framed s o t (fieldLocs frame_1_writes args s ++ arrayLocs frame_1_arrays args s ++ staticLocs frame_1_statics s) 600000 7302250 := h
theorem lw_limb (L : Cond) (hL : ∀ (args : Array Value) (s t : State), L.after args s (.returned (some (.int 1))) t = true) :
    ArmFor flags0 classFile x code maxLocals ret World_1 tables_1 room_1 Calls_1 rest_1 Pre_1
      (fun tb e a s o t => postC L tb e a s o t ∧ Framed s o t (fieldLocs frame_1_writes a s ++ arrayLocs frame_1_arrays a s ++ staticLocs frame_1_statics s) 600000 7302250) := by
  intro l _ _ _ p e ha hc hk s m args below hf hfit hheap happ hpre
  obtain ⟨k, o, h1, h2, h3, rfl, hF⟩ := lw_comes l p e ha hc hk s m args below hf hfit hheap happ hpre
  exact ⟨k, _, h1, h2, h3, hL args s _, lw_frame hF⟩
theorem i_vc : Claimed_1_1 ∧ Claimed_1_2 := ⟨lw_limb limb_1_1 (fun args s t => by simp [limb_1_1, Cond.after, Cond.holds, Cond.value]), lw_limb limb_1_2 (fun args s t => Cond.after_iff.mpr (by
  first | (rw [show limb_1_2 = Cond.eq .result (.int 1) from rfl, Cond.eq_ints (x := 1) (y := 1) rfl rfl]; simp; done) | (simp [limb_1_2, Cond.value, Term.eval]; done)))⟩
