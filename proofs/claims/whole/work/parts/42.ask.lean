set_option maxRecDepth 100000 in
set_option maxHeartbeats 4000000 in
theorem m_X1_leave {h0 h : jH} {L : List Nat} {b : Nat} (t : cA h0 h L) (hl : L.length < 16) : jM yX1_leave cX1_leave 2 (none : Option Jvm.ClassFile.FieldType) 0 none [.ref 216, .int (nI b)] h (fun v h' => v = none ∧ cA h0 h' (L ++ [b])) := by
  obtain ⟨t1, ⟨f, t2, hf⟩, E⟩ := t
  refine jM.ofF (by decide +kernel) rfl (Nat.le_of_ble_eq_true rfl) (fun X hX hI => ?_)
  show jV cX1_leave RX1 0 X none 0 [some (.ref 216), some (.int (nI b))] [] h
  refine e_al0 dX1_leave_0 ?_
  refine e_get dX1_leave_1 fX1_13 t1 rfl ?_
  refine e_bipush (nI 16) dX1_leave_4 (by decide) ?_
  refine e_ic_geN 29 dX1_leave_6 (by decide) (by omega) (by omega) (fun c_6 => ?_) (fun c_6 => ?_)
  · omega
  · refine e_al0 dX1_leave_9 ?_
    refine e_get dX1_leave_10 fX1_9 t1 rfl ?_
    refine e_al0 dX1_leave_13 ?_
    refine e_get dX1_leave_14 fX1_13 t1 rfl ?_
    refine e_il1 dX1_leave_17 ?_
    refine e_iastN dX1_leave_18 t2 (by omega) (by decide) ?_
    refine e_abs (fun h1 hh => ?_)
    replace t1 := jhs hh t1 (by omega)
    replace t2 := jhs_at hh t2
    replace E := jEq.hs hh E (Or.inr rfl)
    clear hh
    refine e_al0 dX1_leave_19 ?_
    refine e_dup dX1_leave_20 rfl ?_
    refine e_get dX1_leave_21 fX1_13 t1 rfl ?_
    refine e_iconst (nI 1) dX1_leave_24 (by decide) ?_
    refine e_iaddN dX1_leave_25 ?_
    refine e_put dX1_leave_26 fX1_13 t1 (Nat.le_of_ble_eq_true rfl) (fun g => ⟨rfl, rfl⟩) ?_
    refine e_abs (fun h2 hh => ?_)
    replace t1 := jhs_at hh t1
    replace t2 := jhs hh t2 (by omega)
    replace E := jEq.hs hh E (Or.inl rfl)
    clear hh
    exact e_ret hX dX1_leave_29 (⟨rfl, by rw [List.length_append, List.length_singleton]; exact t1, ⟨_, t2, L_push hf⟩, E⟩) (fun z => z)
set_option maxRecDepth 100000 in
set_option maxHeartbeats 4000000 in
theorem m_give_10 {h0 h : jH} {L : List Nat} {w : hw} {f k b p g z : Nat → Nat} (hC : HC h0 14 w f k b p g z) (hV : HV w f k b p g) (h7 : w 3 ≤ 7) {q dep : Nat} (hq : q < w 3) (t : cA h0 h L) (hl : L.length + 1 ≤ 16) (hdp : dep < 16) : jM yX1_give cX1_give 6 (some .int) 1 none [.ref 216, .int (nI 10), .ref 14, .int (nI q), .int (nI dep)] h (fun v h' => v = some (.int (nI (w (13 + 4 * q + 1)))) ∧ cA h0 h' (L ++ [10])) := by
  have hqv := hV.2 q hq
  refine jM.ofF (by decide +kernel) rfl (Nat.le_of_ble_eq_true rfl) (fun X hX hI => ?_)
  show jV cX1_give RX1 1 X none 0 [some (.ref 216), some (.int (nI 10)), some (.ref 14), some (.int (nI q)), some (.int (nI dep)), none] [] h
  refine e_il4 dX1_give_0 ?_
  refine e_bipush (nI 16) dX1_give_2 (by decide) ?_
  refine e_ic_leN 9 dX1_give_4 (by decide) (by omega) (by omega) (fun c_4 => ?_) (fun c_4 => ?_)
  · refine e_al0 dX1_give_9 ?_
    refine e_il1 dX1_give_10 ?_
    refine e_cv dX1_give_11 vX1_32 (m_X1_leave (b := 10) t (by omega)) (by decide) rfl rfl (Nat.le_of_ble_eq_true rfl) jBud0 rfl t.1 ?_
    rintro _ h1 ⟨rfl, t⟩
    refine e_il4 dX1_give_14 ?_
    refine e_iconst (nI 1) dX1_give_16 (by decide) ?_
    refine e_iaddN dX1_give_17 ?_
    refine e_is5 dX1_give_18 rfl ?_
    refine e_il1 dX1_give_20 ?_
    refine e_tin 96 dX1_give_21 (by decide) (by decide) rfl (by decide) ?_
    refine e_al2 dX1_give_96 ?_
    refine e_get dX1_give_97 fX1_36 (t.hc hC).1 rfl ?_
    refine e_il3 dX1_give_100 ?_
    refine e_ialdN dX1_give_101 (t.hc hC).2.2.2.1 (by omega) (by decide) ?_
    exact e_iret hX dX1_give_102 (⟨by rw [hqv.2.1], t.cg (by simp only [List.append_assoc, List.cons_append, List.nil_append] <;> rfl)⟩) (fun z => z)
  · omega
set_option maxRecDepth 100000 in
set_option maxHeartbeats 4000000 in
theorem m_give_20 {h0 h : jH} {L : List Nat} {w : hw} {f k b p g z : Nat → Nat} (hC : HC h0 14 w f k b p g z) (hV : HV w f k b p g) (h7 : w 3 ≤ 7) {q dep : Nat} (hq : q < w 3) (t : cA h0 h L) (hl : L.length + 1 ≤ 16) (hdp : dep < 16) : jM yX1_give cX1_give 6 (some .int) 1 none [.ref 216, .int (nI 20), .ref 14, .int (nI q), .int (nI dep)] h (fun v h' => v = some (.int (nI q)) ∧ cA h0 h' (L ++ [20])) := by
  have hqv := hV.2 q hq
  refine jM.ofF (by decide +kernel) rfl (Nat.le_of_ble_eq_true rfl) (fun X hX hI => ?_)
  show jV cX1_give RX1 1 X none 0 [some (.ref 216), some (.int (nI 20)), some (.ref 14), some (.int (nI q)), some (.int (nI dep)), none] [] h
  refine e_il4 dX1_give_0 ?_
  refine e_bipush (nI 16) dX1_give_2 (by decide) ?_
  refine e_ic_leN 9 dX1_give_4 (by decide) (by omega) (by omega) (fun c_4 => ?_) (fun c_4 => ?_)
  · refine e_al0 dX1_give_9 ?_
    refine e_il1 dX1_give_10 ?_
    refine e_cv dX1_give_11 vX1_32 (m_X1_leave (b := 20) t (by omega)) (by decide) rfl rfl (Nat.le_of_ble_eq_true rfl) jBud0 rfl t.1 ?_
    rintro _ h1 ⟨rfl, t⟩
    refine e_il4 dX1_give_14 ?_
    refine e_iconst (nI 1) dX1_give_16 (by decide) ?_
    refine e_iaddN dX1_give_17 ?_
    refine e_is5 dX1_give_18 rfl ?_
    refine e_il1 dX1_give_20 ?_
    refine e_tin 172 dX1_give_21 (by decide) (by decide) rfl (by decide) ?_
    refine e_il3 dX1_give_172 ?_
    exact e_iret hX dX1_give_173 (⟨rfl, t.cg (by simp only [List.append_assoc, List.cons_append, List.nil_append] <;> rfl)⟩) (fun z => z)
  · omega
set_option maxRecDepth 100000 in
set_option maxHeartbeats 4000000 in
theorem m_give_13 {h0 h : jH} {L : List Nat} {w : hw} {f k b p g z : Nat → Nat} (hC : HC h0 14 w f k b p g z) (hV : HV w f k b p g) (h7 : w 3 ≤ 7) {q dep : Nat} (hq : q < w 3) (t : cA h0 h L) (hl : L.length + 2 ≤ 16) (hdp : dep < 15) : jM yX1_give cX1_give 6 (some .int) 2 none [.ref 216, .int (nI 13), .ref 14, .int (nI q), .int (nI dep)] h (fun v h' => v = some (.int (nI (w (13 + 4 * q + 1)) - nI 100)) ∧ cA h0 h' (L ++ [13, 10])) := by
  have hqv := hV.2 q hq
  refine jM.ofF (by decide +kernel) rfl (Nat.le_of_ble_eq_true rfl) (fun X hX hI => ?_)
  show jV cX1_give RX1 2 X none 0 [some (.ref 216), some (.int (nI 13)), some (.ref 14), some (.int (nI q)), some (.int (nI dep)), none] [] h
  refine e_il4 dX1_give_0 ?_
  refine e_bipush (nI 16) dX1_give_2 (by decide) ?_
  refine e_ic_leN 9 dX1_give_4 (by decide) (by omega) (by omega) (fun c_4 => ?_) (fun c_4 => ?_)
  · refine e_al0 dX1_give_9 ?_
    refine e_il1 dX1_give_10 ?_
    refine e_cv dX1_give_11 vX1_32 (m_X1_leave (b := 13) t (by omega)) (by decide) rfl rfl (Nat.le_of_ble_eq_true rfl) jBud0 rfl t.1 ?_
    rintro _ h1 ⟨rfl, t⟩
    refine e_il4 dX1_give_14 ?_
    refine e_iconst (nI 1) dX1_give_16 (by decide) ?_
    refine e_iaddN dX1_give_17 ?_
    refine e_is5 dX1_give_18 rfl ?_
    refine e_il1 dX1_give_20 ?_
    refine e_tin 145 dX1_give_21 (by decide) (by decide) rfl (by decide) ?_
    refine e_al0 dX1_give_145 ?_
    refine e_bipush (nI 10) dX1_give_146 (by decide) ?_
    refine e_al2 dX1_give_148 ?_
    refine e_il3 dX1_give_149 ?_
    refine e_il5 dX1_give_150 ?_
    refine e_cv dX1_give_152 vX1_28 (m_give_10 hC hV h7 hq t (by (try simp only [List.length_append, List.length_cons, List.length_nil]); omega) (by omega)) (by decide) rfl rfl (Nat.le_of_ble_eq_true rfl) jBud0 rfl t.1 ?_
    rintro _ h2 ⟨rfl, t⟩
    refine e_bipush (nI 100) dX1_give_155 (by decide) ?_
    refine e_isub dX1_give_157 ?_
    exact e_iret hX dX1_give_158 (⟨rfl, t.cg (by simp only [List.append_assoc, List.cons_append, List.nil_append] <;> rfl)⟩) (fun z => z)
  · omega
set_option maxRecDepth 100000 in
set_option maxHeartbeats 4000000 in
theorem m_give_14 {h0 h : jH} {L : List Nat} {w : hw} {f k b p g z : Nat → Nat} (hC : HC h0 14 w f k b p g z) (hV : HV w f k b p g) (h7 : w 3 ≤ 7) {q dep : Nat} (hq : q < w 3) (t : cA h0 h L) (hl : L.length + 3 ≤ 16) (hdp : dep < 14) : jM yX1_give cX1_give 6 (some .int) 3 none [.ref 216, .int (nI 14), .ref 14, .int (nI q), .int (nI dep)] h (fun v h' => v = some (.int (nI 2 * (nI (w (13 + 4 * q + 1)) - nI 100))) ∧ cA h0 h' (L ++ [14, 13, 10])) := by
  have hqv := hV.2 q hq
  refine jM.ofF (by decide +kernel) rfl (Nat.le_of_ble_eq_true rfl) (fun X hX hI => ?_)
  show jV cX1_give RX1 3 X none 0 [some (.ref 216), some (.int (nI 14)), some (.ref 14), some (.int (nI q)), some (.int (nI dep)), none] [] h
  refine e_il4 dX1_give_0 ?_
  refine e_bipush (nI 16) dX1_give_2 (by decide) ?_
  refine e_ic_leN 9 dX1_give_4 (by decide) (by omega) (by omega) (fun c_4 => ?_) (fun c_4 => ?_)
  · refine e_al0 dX1_give_9 ?_
    refine e_il1 dX1_give_10 ?_
    refine e_cv dX1_give_11 vX1_32 (m_X1_leave (b := 14) t (by omega)) (by decide) rfl rfl (Nat.le_of_ble_eq_true rfl) jBud0 rfl t.1 ?_
    rintro _ h1 ⟨rfl, t⟩
    refine e_il4 dX1_give_14 ?_
    refine e_iconst (nI 1) dX1_give_16 (by decide) ?_
    refine e_iaddN dX1_give_17 ?_
    refine e_is5 dX1_give_18 rfl ?_
    refine e_il1 dX1_give_20 ?_
    refine e_tin 159 dX1_give_21 (by decide) (by decide) rfl (by decide) ?_
    refine e_iconst (nI 2) dX1_give_159 (by decide) ?_
    refine e_al0 dX1_give_160 ?_
    refine e_bipush (nI 13) dX1_give_161 (by decide) ?_
    refine e_al2 dX1_give_163 ?_
    refine e_il3 dX1_give_164 ?_
    refine e_il5 dX1_give_165 ?_
    refine e_cv dX1_give_167 vX1_28 (m_give_13 hC hV h7 hq t (by (try simp only [List.length_append, List.length_cons, List.length_nil]); omega) (by omega)) (by decide) rfl rfl (Nat.le_of_ble_eq_true rfl) jBud0 rfl t.1 ?_
    rintro _ h2 ⟨rfl, t⟩
    refine e_imul dX1_give_170 ?_
    exact e_iret hX dX1_give_171 (⟨rfl, t.cg (by simp only [List.append_assoc, List.cons_append, List.nil_append] <;> rfl)⟩) (fun z => z)
  · omega
set_option maxRecDepth 100000 in
set_option maxHeartbeats 4000000 in
theorem m_give_21 {h0 h : jH} {L : List Nat} {w : hw} {f k b p g z : Nat → Nat} (hC : HC h0 14 w f k b p g z) (hV : HV w f k b p g) (h7 : w 3 ≤ 7) {q dep : Nat} (hq : q < w 3) (t : cA h0 h L) (hl : L.length + 2 ≤ 16) (hdp : dep < 15) : jM yX1_give cX1_give 6 (some .int) 2 none [.ref 216, .int (nI 21), .ref 14, .int (nI q), .int (nI dep)] h (fun v h' => v = some (.int (nI (q + w (13 + 4 * q + 2)))) ∧ cA h0 h' (L ++ [21, 20])) := by
  have hqv := hV.2 q hq
  refine jM.ofF (by decide +kernel) rfl (Nat.le_of_ble_eq_true rfl) (fun X hX hI => ?_)
  show jV cX1_give RX1 2 X none 0 [some (.ref 216), some (.int (nI 21)), some (.ref 14), some (.int (nI q)), some (.int (nI dep)), none] [] h
  refine e_il4 dX1_give_0 ?_
  refine e_bipush (nI 16) dX1_give_2 (by decide) ?_
  refine e_ic_leN 9 dX1_give_4 (by decide) (by omega) (by omega) (fun c_4 => ?_) (fun c_4 => ?_)
  · refine e_al0 dX1_give_9 ?_
    refine e_il1 dX1_give_10 ?_
    refine e_cv dX1_give_11 vX1_32 (m_X1_leave (b := 21) t (by omega)) (by decide) rfl rfl (Nat.le_of_ble_eq_true rfl) jBud0 rfl t.1 ?_
    rintro _ h1 ⟨rfl, t⟩
    refine e_il4 dX1_give_14 ?_
    refine e_iconst (nI 1) dX1_give_16 (by decide) ?_
    refine e_iaddN dX1_give_17 ?_
    refine e_is5 dX1_give_18 rfl ?_
    refine e_il1 dX1_give_20 ?_
    refine e_tin 174 dX1_give_21 (by decide) (by decide) rfl (by decide) ?_
    refine e_al0 dX1_give_174 ?_
    refine e_bipush (nI 20) dX1_give_175 (by decide) ?_
    refine e_al2 dX1_give_177 ?_
    refine e_il3 dX1_give_178 ?_
    refine e_il5 dX1_give_179 ?_
    refine e_cv dX1_give_181 vX1_28 (m_give_20 hC hV h7 hq t (by (try simp only [List.length_append, List.length_cons, List.length_nil]); omega) (by omega)) (by decide) rfl rfl (Nat.le_of_ble_eq_true rfl) jBud0 rfl t.1 ?_
    rintro _ h2 ⟨rfl, t⟩
    refine e_al2 dX1_give_184 ?_
    refine e_get dX1_give_185 fX1_39 (t.hc hC).1 rfl ?_
    refine e_il3 dX1_give_188 ?_
    refine e_ialdN dX1_give_189 (t.hc hC).2.2.2.2.1 (by omega) (by decide) ?_
    refine e_iaddN dX1_give_190 ?_
    exact e_iret hX dX1_give_191 (⟨by rw [hqv.2.2.1], t.cg (by simp only [List.append_assoc, List.cons_append, List.nil_append] <;> rfl)⟩) (fun z => z)
  · omega
set_option maxRecDepth 100000 in
set_option maxHeartbeats 4000000 in
theorem m_give_22 {h0 h : jH} {L : List Nat} {w : hw} {f k b p g z : Nat → Nat} (hC : HC h0 14 w f k b p g z) (hV : HV w f k b p g) (h7 : w 3 ≤ 7) {q dep : Nat} (hq : q < w 3) (t : cA h0 h L) (hl : L.length + 3 ≤ 16) (hdp : dep < 14) : jM yX1_give cX1_give 6 (some .int) 3 none [.ref 216, .int (nI 22), .ref 14, .int (nI q), .int (nI dep)] h (fun v h' => v = some (.int (nI (q + w (13 + 4 * q + 2)) - nI 1000)) ∧ cA h0 h' (L ++ [22, 21, 20])) := by
  have hqv := hV.2 q hq
  refine jM.ofF (by decide +kernel) rfl (Nat.le_of_ble_eq_true rfl) (fun X hX hI => ?_)
  show jV cX1_give RX1 3 X none 0 [some (.ref 216), some (.int (nI 22)), some (.ref 14), some (.int (nI q)), some (.int (nI dep)), none] [] h
  refine e_il4 dX1_give_0 ?_
  refine e_bipush (nI 16) dX1_give_2 (by decide) ?_
  refine e_ic_leN 9 dX1_give_4 (by decide) (by omega) (by omega) (fun c_4 => ?_) (fun c_4 => ?_)
  · refine e_al0 dX1_give_9 ?_
    refine e_il1 dX1_give_10 ?_
    refine e_cv dX1_give_11 vX1_32 (m_X1_leave (b := 22) t (by omega)) (by decide) rfl rfl (Nat.le_of_ble_eq_true rfl) jBud0 rfl t.1 ?_
    rintro _ h1 ⟨rfl, t⟩
    refine e_il4 dX1_give_14 ?_
    refine e_iconst (nI 1) dX1_give_16 (by decide) ?_
    refine e_iaddN dX1_give_17 ?_
    refine e_is5 dX1_give_18 rfl ?_
    refine e_il1 dX1_give_20 ?_
    refine e_tin 192 dX1_give_21 (by decide) (by decide) rfl (by decide) ?_
    refine e_al0 dX1_give_192 ?_
    refine e_bipush (nI 21) dX1_give_193 (by decide) ?_
    refine e_al2 dX1_give_195 ?_
    refine e_il3 dX1_give_196 ?_
    refine e_il5 dX1_give_197 ?_
    refine e_cv dX1_give_199 vX1_28 (m_give_21 hC hV h7 hq t (by (try simp only [List.length_append, List.length_cons, List.length_nil]); omega) (by omega)) (by decide) rfl rfl (Nat.le_of_ble_eq_true rfl) jBud0 rfl t.1 ?_
    rintro _ h2 ⟨rfl, t⟩
    refine e_sipush (nI 1000) dX1_give_202 (by decide) ?_
    refine e_isub dX1_give_205 ?_
    exact e_iret hX dX1_give_206 (⟨rfl, t.cg (by simp only [List.append_assoc, List.cons_append, List.nil_append] <;> rfl)⟩) (fun z => z)
  · omega
set_option maxRecDepth 100000 in
set_option maxHeartbeats 4000000 in
theorem m_give_24 {h0 h : jH} {L : List Nat} {w : hw} {f k b p g z : Nat → Nat} (hC : HC h0 14 w f k b p g z) (hV : HV w f k b p g) (h7 : w 3 ≤ 7) {q dep : Nat} (hq : q < w 3) (t : cA h0 h L) (hl : L.length + 3 ≤ 16) (hdp : dep < 14) : jM yX1_give cX1_give 6 (some .int) 3 none [.ref 216, .int (nI 24), .ref 14, .int (nI q), .int (nI dep)] h (fun v h' => v = some (.int (nI (2 * (q + w (13 + 4 * q + 2))))) ∧ cA h0 h' (L ++ [24, 21, 20])) := by
  have hqv := hV.2 q hq
  refine jM.ofF (by decide +kernel) rfl (Nat.le_of_ble_eq_true rfl) (fun X hX hI => ?_)
  show jV cX1_give RX1 3 X none 0 [some (.ref 216), some (.int (nI 24)), some (.ref 14), some (.int (nI q)), some (.int (nI dep)), none] [] h
  refine e_il4 dX1_give_0 ?_
  refine e_bipush (nI 16) dX1_give_2 (by decide) ?_
  refine e_ic_leN 9 dX1_give_4 (by decide) (by omega) (by omega) (fun c_4 => ?_) (fun c_4 => ?_)
  · refine e_al0 dX1_give_9 ?_
    refine e_il1 dX1_give_10 ?_
    refine e_cv dX1_give_11 vX1_32 (m_X1_leave (b := 24) t (by omega)) (by decide) rfl rfl (Nat.le_of_ble_eq_true rfl) jBud0 rfl t.1 ?_
    rintro _ h1 ⟨rfl, t⟩
    refine e_il4 dX1_give_14 ?_
    refine e_iconst (nI 1) dX1_give_16 (by decide) ?_
    refine e_iaddN dX1_give_17 ?_
    refine e_is5 dX1_give_18 rfl ?_
    refine e_il1 dX1_give_20 ?_
    refine e_tin 237 dX1_give_21 (by decide) (by decide) rfl (by decide) ?_
    refine e_iconst (nI 2) dX1_give_237 (by decide) ?_
    refine e_al0 dX1_give_238 ?_
    refine e_bipush (nI 21) dX1_give_239 (by decide) ?_
    refine e_al2 dX1_give_241 ?_
    refine e_il3 dX1_give_242 ?_
    refine e_il5 dX1_give_243 ?_
    refine e_cv dX1_give_245 vX1_28 (m_give_21 hC hV h7 hq t (by (try simp only [List.length_append, List.length_cons, List.length_nil]); omega) (by omega)) (by decide) rfl rfl (Nat.le_of_ble_eq_true rfl) jBud0 rfl t.1 ?_
    rintro _ h2 ⟨rfl, t⟩
    refine e_imulN dX1_give_248 ?_
    exact e_iret hX dX1_give_249 (⟨rfl, t.cg (by simp only [List.append_assoc, List.cons_append, List.nil_append] <;> rfl)⟩) (fun z => z)
  · omega
set_option maxRecDepth 100000 in
set_option maxHeartbeats 4000000 in
theorem m_give_11_1 {h0 h : jH} {L : List Nat} {w : hw} {f k b p g z : Nat → Nat} (hC : HC h0 14 w f k b p g z) (hV : HV w f k b p g) (h7 : w 3 ≤ 7) {q dep : Nat} (hq : q < w 3) (t : cA h0 h L) (hl : L.length + 5 ≤ 16) (hdp : dep < 13) (hk : w (13 + 4 * q) = 1) : jM yX1_give cX1_give 6 (some .int) 4 none [.ref 216, .int (nI 11), .ref 14, .int (nI q), .int (nI dep)] h (fun v h' => v = some (.int (nI (w (13 + 4 * q + 1)) + s_mk w q)) ∧ cA h0 h' (L ++ (11 :: 10 :: l_mk 1))) := by
  have hqv := hV.2 q hq
  refine jM.ofF (by decide +kernel) rfl (Nat.le_of_ble_eq_true rfl) (fun X hX hI => ?_)
  show jV cX1_give RX1 4 X none 0 [some (.ref 216), some (.int (nI 11)), some (.ref 14), some (.int (nI q)), some (.int (nI dep)), none] [] h
  refine e_il4 dX1_give_0 ?_
  refine e_bipush (nI 16) dX1_give_2 (by decide) ?_
  refine e_ic_leN 9 dX1_give_4 (by decide) (by omega) (by omega) (fun c_4 => ?_) (fun c_4 => ?_)
  · refine e_al0 dX1_give_9 ?_
    refine e_il1 dX1_give_10 ?_
    refine e_cv dX1_give_11 vX1_32 (m_X1_leave (b := 11) t (by omega)) (by decide) rfl rfl (Nat.le_of_ble_eq_true rfl) jBud0 rfl t.1 ?_
    rintro _ h1 ⟨rfl, t⟩
    refine e_il4 dX1_give_14 ?_
    refine e_iconst (nI 1) dX1_give_16 (by decide) ?_
    refine e_iaddN dX1_give_17 ?_
    refine e_is5 dX1_give_18 rfl ?_
    refine e_il1 dX1_give_20 ?_
    refine e_tin 103 dX1_give_21 (by decide) (by decide) rfl (by decide) ?_
    refine e_al0 dX1_give_103 ?_
    refine e_bipush (nI 10) dX1_give_104 (by decide) ?_
    refine e_al2 dX1_give_106 ?_
    refine e_il3 dX1_give_107 ?_
    refine e_il5 dX1_give_108 ?_
    refine e_cv dX1_give_110 vX1_28 (m_give_10 hC hV h7 hq t (by (try simp only [List.length_append, List.length_cons, List.length_nil]); omega) (by omega)) (by decide) rfl rfl (Nat.le_of_ble_eq_true rfl) jBud0 rfl t.1 ?_
    rintro _ h2 ⟨rfl, t⟩
    refine e_al0 dX1_give_113 ?_
    refine e_gets 4 dX1_give_114 rfl gX1_25 ?_
    refine e_al2 dX1_give_117 ?_
    refine e_get dX1_give_118 fX1_17 (t.hc hC).1 rfl ?_
    refine e_il3 dX1_give_121 ?_
    refine e_ialdN dX1_give_122 (t.hc hC).2.2.1 (by omega) (by decide) ?_
    rw [hqv.1, hk]
    refine e_saldN 4 dX1_give_123 rfl (by show _ < 6; omega) (by decide) ?_
    refine e_top (show ([20, 21, 24, 22, 23, 23] : List Int32).getD 1 0 = nI 21 from rfl) ?_
    refine e_al2 dX1_give_124 ?_
    refine e_il3 dX1_give_125 ?_
    refine e_il5 dX1_give_126 ?_
    refine e_cv dX1_give_128 vX1_28 (m_give_21 hC hV h7 hq t (by (try simp only [List.length_append, List.length_cons, List.length_nil]); omega) (by omega)) (by decide) rfl rfl (Nat.le_of_ble_eq_true rfl) jBud0 rfl t.1 ?_
    rintro _ h2 ⟨rfl, t⟩
    refine e_iadd dX1_give_131 ?_
    exact e_iret hX dX1_give_132 (⟨by rw [s_mk1 hk], t.cg (by simp only [List.append_assoc, List.cons_append, List.nil_append] <;> rfl)⟩) (fun z => z)
  · omega
set_option maxRecDepth 100000 in
set_option maxHeartbeats 4000000 in
theorem m_give_11_2 {h0 h : jH} {L : List Nat} {w : hw} {f k b p g z : Nat → Nat} (hC : HC h0 14 w f k b p g z) (hV : HV w f k b p g) (h7 : w 3 ≤ 7) {q dep : Nat} (hq : q < w 3) (t : cA h0 h L) (hl : L.length + 5 ≤ 16) (hdp : dep < 13) (hk : w (13 + 4 * q) = 2) : jM yX1_give cX1_give 6 (some .int) 4 none [.ref 216, .int (nI 11), .ref 14, .int (nI q), .int (nI dep)] h (fun v h' => v = some (.int (nI (w (13 + 4 * q + 1)) + s_mk w q)) ∧ cA h0 h' (L ++ (11 :: 10 :: l_mk 2))) := by
  have hqv := hV.2 q hq
  refine jM.ofF (by decide +kernel) rfl (Nat.le_of_ble_eq_true rfl) (fun X hX hI => ?_)
  show jV cX1_give RX1 4 X none 0 [some (.ref 216), some (.int (nI 11)), some (.ref 14), some (.int (nI q)), some (.int (nI dep)), none] [] h
  refine e_il4 dX1_give_0 ?_
  refine e_bipush (nI 16) dX1_give_2 (by decide) ?_
  refine e_ic_leN 9 dX1_give_4 (by decide) (by omega) (by omega) (fun c_4 => ?_) (fun c_4 => ?_)
  · refine e_al0 dX1_give_9 ?_
    refine e_il1 dX1_give_10 ?_
    refine e_cv dX1_give_11 vX1_32 (m_X1_leave (b := 11) t (by omega)) (by decide) rfl rfl (Nat.le_of_ble_eq_true rfl) jBud0 rfl t.1 ?_
    rintro _ h1 ⟨rfl, t⟩
    refine e_il4 dX1_give_14 ?_
    refine e_iconst (nI 1) dX1_give_16 (by decide) ?_
    refine e_iaddN dX1_give_17 ?_
    refine e_is5 dX1_give_18 rfl ?_
    refine e_il1 dX1_give_20 ?_
    refine e_tin 103 dX1_give_21 (by decide) (by decide) rfl (by decide) ?_
    refine e_al0 dX1_give_103 ?_
    refine e_bipush (nI 10) dX1_give_104 (by decide) ?_
    refine e_al2 dX1_give_106 ?_
    refine e_il3 dX1_give_107 ?_
    refine e_il5 dX1_give_108 ?_
    refine e_cv dX1_give_110 vX1_28 (m_give_10 hC hV h7 hq t (by (try simp only [List.length_append, List.length_cons, List.length_nil]); omega) (by omega)) (by decide) rfl rfl (Nat.le_of_ble_eq_true rfl) jBud0 rfl t.1 ?_
    rintro _ h2 ⟨rfl, t⟩
    refine e_al0 dX1_give_113 ?_
    refine e_gets 4 dX1_give_114 rfl gX1_25 ?_
    refine e_al2 dX1_give_117 ?_
    refine e_get dX1_give_118 fX1_17 (t.hc hC).1 rfl ?_
    refine e_il3 dX1_give_121 ?_
    refine e_ialdN dX1_give_122 (t.hc hC).2.2.1 (by omega) (by decide) ?_
    rw [hqv.1, hk]
    refine e_saldN 4 dX1_give_123 rfl (by show _ < 6; omega) (by decide) ?_
    refine e_top (show ([20, 21, 24, 22, 23, 23] : List Int32).getD 2 0 = nI 24 from rfl) ?_
    refine e_al2 dX1_give_124 ?_
    refine e_il3 dX1_give_125 ?_
    refine e_il5 dX1_give_126 ?_
    refine e_cv dX1_give_128 vX1_28 (m_give_24 hC hV h7 hq t (by (try simp only [List.length_append, List.length_cons, List.length_nil]); omega) (by omega)) (by decide) rfl rfl (Nat.le_of_ble_eq_true rfl) jBud0 rfl t.1 ?_
    rintro _ h2 ⟨rfl, t⟩
    refine e_iadd dX1_give_131 ?_
    exact e_iret hX dX1_give_132 (⟨by rw [s_mk2 hk], t.cg (by simp only [List.append_assoc, List.cons_append, List.nil_append] <;> rfl)⟩) (fun z => z)
  · omega
set_option maxRecDepth 100000 in
set_option maxHeartbeats 4000000 in
theorem m_give_11_3 {h0 h : jH} {L : List Nat} {w : hw} {f k b p g z : Nat → Nat} (hC : HC h0 14 w f k b p g z) (hV : HV w f k b p g) (h7 : w 3 ≤ 7) {q dep : Nat} (hq : q < w 3) (t : cA h0 h L) (hl : L.length + 5 ≤ 16) (hdp : dep < 13) (hk : w (13 + 4 * q) = 3) : jM yX1_give cX1_give 6 (some .int) 4 none [.ref 216, .int (nI 11), .ref 14, .int (nI q), .int (nI dep)] h (fun v h' => v = some (.int (nI (w (13 + 4 * q + 1)) + s_mk w q)) ∧ cA h0 h' (L ++ (11 :: 10 :: l_mk 3))) := by
  have hqv := hV.2 q hq
  refine jM.ofF (by decide +kernel) rfl (Nat.le_of_ble_eq_true rfl) (fun X hX hI => ?_)
  show jV cX1_give RX1 4 X none 0 [some (.ref 216), some (.int (nI 11)), some (.ref 14), some (.int (nI q)), some (.int (nI dep)), none] [] h
  refine e_il4 dX1_give_0 ?_
  refine e_bipush (nI 16) dX1_give_2 (by decide) ?_
  refine e_ic_leN 9 dX1_give_4 (by decide) (by omega) (by omega) (fun c_4 => ?_) (fun c_4 => ?_)
  · refine e_al0 dX1_give_9 ?_
    refine e_il1 dX1_give_10 ?_
    refine e_cv dX1_give_11 vX1_32 (m_X1_leave (b := 11) t (by omega)) (by decide) rfl rfl (Nat.le_of_ble_eq_true rfl) jBud0 rfl t.1 ?_
    rintro _ h1 ⟨rfl, t⟩
    refine e_il4 dX1_give_14 ?_
    refine e_iconst (nI 1) dX1_give_16 (by decide) ?_
    refine e_iaddN dX1_give_17 ?_
    refine e_is5 dX1_give_18 rfl ?_
    refine e_il1 dX1_give_20 ?_
    refine e_tin 103 dX1_give_21 (by decide) (by decide) rfl (by decide) ?_
    refine e_al0 dX1_give_103 ?_
    refine e_bipush (nI 10) dX1_give_104 (by decide) ?_
    refine e_al2 dX1_give_106 ?_
    refine e_il3 dX1_give_107 ?_
    refine e_il5 dX1_give_108 ?_
    refine e_cv dX1_give_110 vX1_28 (m_give_10 hC hV h7 hq t (by (try simp only [List.length_append, List.length_cons, List.length_nil]); omega) (by omega)) (by decide) rfl rfl (Nat.le_of_ble_eq_true rfl) jBud0 rfl t.1 ?_
    rintro _ h2 ⟨rfl, t⟩
    refine e_al0 dX1_give_113 ?_
    refine e_gets 4 dX1_give_114 rfl gX1_25 ?_
    refine e_al2 dX1_give_117 ?_
    refine e_get dX1_give_118 fX1_17 (t.hc hC).1 rfl ?_
    refine e_il3 dX1_give_121 ?_
    refine e_ialdN dX1_give_122 (t.hc hC).2.2.1 (by omega) (by decide) ?_
    rw [hqv.1, hk]
    refine e_saldN 4 dX1_give_123 rfl (by show _ < 6; omega) (by decide) ?_
    refine e_top (show ([20, 21, 24, 22, 23, 23] : List Int32).getD 3 0 = nI 22 from rfl) ?_
    refine e_al2 dX1_give_124 ?_
    refine e_il3 dX1_give_125 ?_
    refine e_il5 dX1_give_126 ?_
    refine e_cv dX1_give_128 vX1_28 (m_give_22 hC hV h7 hq t (by (try simp only [List.length_append, List.length_cons, List.length_nil]); omega) (by omega)) (by decide) rfl rfl (Nat.le_of_ble_eq_true rfl) jBud0 rfl t.1 ?_
    rintro _ h2 ⟨rfl, t⟩
    refine e_iadd dX1_give_131 ?_
    exact e_iret hX dX1_give_132 (⟨by rw [s_mk3 hk], t.cg (by simp only [List.append_assoc, List.cons_append, List.nil_append] <;> rfl)⟩) (fun z => z)
  · omega
set_option maxRecDepth 100000 in
set_option maxHeartbeats 4000000 in
theorem m_give_12 {h0 h : jH} {L : List Nat} {w : hw} {f k b p g z : Nat → Nat} (hC : HC h0 14 w f k b p g z) (hV : HV w f k b p g) (h7 : w 3 ≤ 7) {q dep : Nat} (hq : q < w 3) (t : cA h0 h L) (hl : L.length + 6 ≤ 16) (hdp : dep < 12) (hk : w (13 + 4 * q) = 2) : jM yX1_give cX1_give 6 (some .int) 5 none [.ref 216, .int (nI 12), .ref 14, .int (nI q), .int (nI dep)] h (fun v h' => v = some (.int (-(nI (w (13 + 4 * q + 1)) + s_mk w q))) ∧ cA h0 h' (L ++ (12 :: 11 :: 10 :: l_mk 2))) := by
  have hqv := hV.2 q hq
  refine jM.ofF (by decide +kernel) rfl (Nat.le_of_ble_eq_true rfl) (fun X hX hI => ?_)
  show jV cX1_give RX1 5 X none 0 [some (.ref 216), some (.int (nI 12)), some (.ref 14), some (.int (nI q)), some (.int (nI dep)), none] [] h
  refine e_il4 dX1_give_0 ?_
  refine e_bipush (nI 16) dX1_give_2 (by decide) ?_
  refine e_ic_leN 9 dX1_give_4 (by decide) (by omega) (by omega) (fun c_4 => ?_) (fun c_4 => ?_)
  · refine e_al0 dX1_give_9 ?_
    refine e_il1 dX1_give_10 ?_
    refine e_cv dX1_give_11 vX1_32 (m_X1_leave (b := 12) t (by omega)) (by decide) rfl rfl (Nat.le_of_ble_eq_true rfl) jBud0 rfl t.1 ?_
    rintro _ h1 ⟨rfl, t⟩
    refine e_il4 dX1_give_14 ?_
    refine e_iconst (nI 1) dX1_give_16 (by decide) ?_
    refine e_iaddN dX1_give_17 ?_
    refine e_is5 dX1_give_18 rfl ?_
    refine e_il1 dX1_give_20 ?_
    refine e_tin 133 dX1_give_21 (by decide) (by decide) rfl (by decide) ?_
    refine e_al0 dX1_give_133 ?_
    refine e_bipush (nI 11) dX1_give_134 (by decide) ?_
    refine e_al2 dX1_give_136 ?_
    refine e_il3 dX1_give_137 ?_
    refine e_il5 dX1_give_138 ?_
    refine e_cv dX1_give_140 vX1_28 (m_give_11_2 hC hV h7 hq t (by (try simp only [List.length_append, List.length_cons, List.length_nil]); omega) (by omega) hk) (by decide) rfl rfl (Nat.le_of_ble_eq_true rfl) jBud0 rfl t.1 ?_
    rintro _ h2 ⟨rfl, t⟩
    refine e_ineg dX1_give_143 ?_
    exact e_iret hX dX1_give_144 (⟨rfl, t.cg (by simp only [List.append_assoc, List.cons_append, List.nil_append] <;> rfl)⟩) (fun z => z)
  · omega
set_option maxRecDepth 100000 in
set_option maxHeartbeats 4000000 in
theorem m_give_23_4 {h0 h : jH} {L : List Nat} {w : hw} {f k b p g z : Nat → Nat} (hC : HC h0 14 w f k b p g z) (hV : HV w f k b p g) (h7 : w 3 ≤ 7) {q dep : Nat} (hq : q < w 3) (t : cA h0 h L) (hl : L.length + 5 ≤ 16) (hdp : dep < 13) (hk : w (13 + 4 * q) = 4) : jM yX1_give cX1_give 6 (some .int) 4 none [.ref 216, .int (nI 23), .ref 14, .int (nI q), .int (nI dep)] h (fun v h' => v = some (.int (nI q - s_ts w q)) ∧ cA h0 h' (L ++ (23 :: 20 :: l_ts 4))) := by
  have hqv := hV.2 q hq
  refine jM.ofF (by decide +kernel) rfl (Nat.le_of_ble_eq_true rfl) (fun X hX hI => ?_)
  show jV cX1_give RX1 4 X none 0 [some (.ref 216), some (.int (nI 23)), some (.ref 14), some (.int (nI q)), some (.int (nI dep)), none] [] h
  refine e_il4 dX1_give_0 ?_
  refine e_bipush (nI 16) dX1_give_2 (by decide) ?_
  refine e_ic_leN 9 dX1_give_4 (by decide) (by omega) (by omega) (fun c_4 => ?_) (fun c_4 => ?_)
  · refine e_al0 dX1_give_9 ?_
    refine e_il1 dX1_give_10 ?_
    refine e_cv dX1_give_11 vX1_32 (m_X1_leave (b := 23) t (by omega)) (by decide) rfl rfl (Nat.le_of_ble_eq_true rfl) jBud0 rfl t.1 ?_
    rintro _ h1 ⟨rfl, t⟩
    refine e_il4 dX1_give_14 ?_
    refine e_iconst (nI 1) dX1_give_16 (by decide) ?_
    refine e_iaddN dX1_give_17 ?_
    refine e_is5 dX1_give_18 rfl ?_
    refine e_il1 dX1_give_20 ?_
    refine e_tin 207 dX1_give_21 (by decide) (by decide) rfl (by decide) ?_
    refine e_al0 dX1_give_207 ?_
    refine e_bipush (nI 20) dX1_give_208 (by decide) ?_
    refine e_al2 dX1_give_210 ?_
    refine e_il3 dX1_give_211 ?_
    refine e_il5 dX1_give_212 ?_
    refine e_cv dX1_give_214 vX1_28 (m_give_20 hC hV h7 hq t (by (try simp only [List.length_append, List.length_cons, List.length_nil]); omega) (by omega)) (by decide) rfl rfl (Nat.le_of_ble_eq_true rfl) jBud0 rfl t.1 ?_
    rintro _ h2 ⟨rfl, t⟩
    refine e_al0 dX1_give_217 ?_
    refine e_gets 3 dX1_give_218 rfl gX1_22 ?_
    refine e_al2 dX1_give_221 ?_
    refine e_get dX1_give_222 fX1_17 (t.hc hC).1 rfl ?_
    refine e_il3 dX1_give_225 ?_
    refine e_ialdN dX1_give_226 (t.hc hC).2.2.1 (by omega) (by decide) ?_
    rw [hqv.1, hk]
    refine e_saldN 3 dX1_give_227 rfl (by show _ < 6; omega) (by decide) ?_
    refine e_top (show ([10, 11, 12, 11, 13, 14] : List Int32).getD 4 0 = nI 13 from rfl) ?_
    refine e_al2 dX1_give_228 ?_
    refine e_il3 dX1_give_229 ?_
    refine e_il5 dX1_give_230 ?_
    refine e_cv dX1_give_232 vX1_28 (m_give_13 hC hV h7 hq t (by (try simp only [List.length_append, List.length_cons, List.length_nil]); omega) (by omega)) (by decide) rfl rfl (Nat.le_of_ble_eq_true rfl) jBud0 rfl t.1 ?_
    rintro _ h2 ⟨rfl, t⟩
    refine e_isub dX1_give_235 ?_
    exact e_iret hX dX1_give_236 (⟨by rw [s_ts4 hk], t.cg (by simp only [List.append_assoc, List.cons_append, List.nil_append] <;> rfl)⟩) (fun z => z)
  · omega
set_option maxRecDepth 100000 in
set_option maxHeartbeats 4000000 in
theorem m_give_23_5 {h0 h : jH} {L : List Nat} {w : hw} {f k b p g z : Nat → Nat} (hC : HC h0 14 w f k b p g z) (hV : HV w f k b p g) (h7 : w 3 ≤ 7) {q dep : Nat} (hq : q < w 3) (t : cA h0 h L) (hl : L.length + 5 ≤ 16) (hdp : dep < 13) (hk : w (13 + 4 * q) = 5) : jM yX1_give cX1_give 6 (some .int) 4 none [.ref 216, .int (nI 23), .ref 14, .int (nI q), .int (nI dep)] h (fun v h' => v = some (.int (nI q - s_ts w q)) ∧ cA h0 h' (L ++ (23 :: 20 :: l_ts 5))) := by
  have hqv := hV.2 q hq
  refine jM.ofF (by decide +kernel) rfl (Nat.le_of_ble_eq_true rfl) (fun X hX hI => ?_)
  show jV cX1_give RX1 4 X none 0 [some (.ref 216), some (.int (nI 23)), some (.ref 14), some (.int (nI q)), some (.int (nI dep)), none] [] h
  refine e_il4 dX1_give_0 ?_
  refine e_bipush (nI 16) dX1_give_2 (by decide) ?_
  refine e_ic_leN 9 dX1_give_4 (by decide) (by omega) (by omega) (fun c_4 => ?_) (fun c_4 => ?_)
  · refine e_al0 dX1_give_9 ?_
    refine e_il1 dX1_give_10 ?_
    refine e_cv dX1_give_11 vX1_32 (m_X1_leave (b := 23) t (by omega)) (by decide) rfl rfl (Nat.le_of_ble_eq_true rfl) jBud0 rfl t.1 ?_
    rintro _ h1 ⟨rfl, t⟩
    refine e_il4 dX1_give_14 ?_
    refine e_iconst (nI 1) dX1_give_16 (by decide) ?_
    refine e_iaddN dX1_give_17 ?_
    refine e_is5 dX1_give_18 rfl ?_
    refine e_il1 dX1_give_20 ?_
    refine e_tin 207 dX1_give_21 (by decide) (by decide) rfl (by decide) ?_
    refine e_al0 dX1_give_207 ?_
    refine e_bipush (nI 20) dX1_give_208 (by decide) ?_
    refine e_al2 dX1_give_210 ?_
    refine e_il3 dX1_give_211 ?_
    refine e_il5 dX1_give_212 ?_
    refine e_cv dX1_give_214 vX1_28 (m_give_20 hC hV h7 hq t (by (try simp only [List.length_append, List.length_cons, List.length_nil]); omega) (by omega)) (by decide) rfl rfl (Nat.le_of_ble_eq_true rfl) jBud0 rfl t.1 ?_
    rintro _ h2 ⟨rfl, t⟩
    refine e_al0 dX1_give_217 ?_
    refine e_gets 3 dX1_give_218 rfl gX1_22 ?_
    refine e_al2 dX1_give_221 ?_
    refine e_get dX1_give_222 fX1_17 (t.hc hC).1 rfl ?_
    refine e_il3 dX1_give_225 ?_
    refine e_ialdN dX1_give_226 (t.hc hC).2.2.1 (by omega) (by decide) ?_
    rw [hqv.1, hk]
    refine e_saldN 3 dX1_give_227 rfl (by show _ < 6; omega) (by decide) ?_
    refine e_top (show ([10, 11, 12, 11, 13, 14] : List Int32).getD 5 0 = nI 14 from rfl) ?_
    refine e_al2 dX1_give_228 ?_
    refine e_il3 dX1_give_229 ?_
    refine e_il5 dX1_give_230 ?_
    refine e_cv dX1_give_232 vX1_28 (m_give_14 hC hV h7 hq t (by (try simp only [List.length_append, List.length_cons, List.length_nil]); omega) (by omega)) (by decide) rfl rfl (Nat.le_of_ble_eq_true rfl) jBud0 rfl t.1 ?_
    rintro _ h2 ⟨rfl, t⟩
    refine e_isub dX1_give_235 ?_
    exact e_iret hX dX1_give_236 (⟨by rw [s_ts5 hk], t.cg (by simp only [List.append_assoc, List.cons_append, List.nil_append] <;> rfl)⟩) (fun z => z)
  · omega
set_option maxRecDepth 100000 in
set_option maxHeartbeats 4000000 in
theorem m_X1_answer_1 {h : jH} {w : hw} {f k b p g z : Nat → Nat} (hC : HC h 14 w f k b p g z) (hV : HV w f k b p g) (h7 : w 3 ≤ 7) {q v : Nat} (hq : q < w 3) (hv : v ≤ 1) {tn : Int32} (t1 : h[216]? = some (jO 1 [.ref 217, .int tn])) {f0 : Nat → Nat} (t2 : h[217]? = some (jN 16 f0)) (hk : w (13 + 4 * q) = 1) : jM yX1_answer cX1_answer 5 (some .int) 6 none [.ref 216, .ref 14, .int (nI q), .int (nI v)] h (fun v' h' => v' = some (.int (s_askV w q v)) ∧ cA h h' (s_askL w q v)) := by
  have hqv := hV.2 q hq
  refine jM.ofF (by decide +kernel) rfl (Nat.le_of_ble_eq_true rfl) (fun X hX hI => ?_)
  show jV cX1_answer RX1 6 X none 0 [some (.ref 216), some (.ref 14), some (.int (nI q)), some (.int (nI v)), none] [] h
  refine e_al0 dX1_answer_0 ?_
  refine e_iconst (nI 0) dX1_answer_1 (by decide) ?_
  refine e_put dX1_answer_2 fX1_13 t1 (Nat.le_of_ble_eq_true rfl) (fun g => ⟨rfl, rfl⟩) ?_
  refine e_abs (fun h1 hh => ?_)
  have t : cA h h1 [] := ⟨jhs_at hh t1, ⟨_, jhs hh t2 (by omega), fun i hi => absurd hi (by simp)⟩, jEq.hs hh jEq.rf (Or.inl rfl)⟩
  have hC0 := hC
  replace hC := t.hc hC
  clear hh
  refine e_al1 dX1_answer_5 ?_
  refine e_get dX1_answer_6 fX1_17 hC.1 rfl ?_
  refine e_il2 dX1_answer_9 ?_
  refine e_ialdN dX1_answer_10 hC.2.2.1 (by omega) (by decide) ?_
  rw [hqv.1, hk]
  refine e_is4 dX1_answer_11 rfl ?_
  refine e_al0 dX1_answer_13 ?_
  refine e_il3 dX1_answer_14 ?_
  refine e_if_neN 27 dX1_answer_15 (by decide) (by omega) (fun c_15 => ?_) (fun c_15 => ?_)
  · refine e_gets 4 dX1_answer_27 rfl gX1_25 ?_
    refine e_il4 dX1_answer_30 ?_
    refine e_saldN 4 dX1_answer_32 rfl (by decide) (by decide) ?_
    refine e_top (show ([20, 21, 24, 22, 23, 23] : List Int32).getD 1 0 = nI 21 from rfl) ?_
    refine e_al1 dX1_answer_33 ?_
    refine e_il2 dX1_answer_34 ?_
    refine e_iconst (nI 0) dX1_answer_35 (by decide) ?_
    refine e_cv dX1_answer_36 vX1_28 (m_give_21 hC0 hV h7 hq t (by decide) (by omega)) (by decide) rfl rfl (Nat.le_of_ble_eq_true rfl) jBud0 rfl t.1 ?_
    rintro _ h2 ⟨rfl, t⟩
    exact e_iret hX dX1_answer_39 (⟨by rw [s_askV, if_neg (by omega), if_neg (by omega), s_mk1 hk], t.cg (by rw [List.nil_append, s_askL, if_neg (by omega), if_neg (by omega), hk, l_mk, if_pos rfl])⟩) (fun z => z)
  · refine e_gets 3 dX1_answer_18 rfl gX1_22 ?_
    refine e_il4 dX1_answer_21 ?_
    refine e_saldN 3 dX1_answer_23 rfl (by decide) (by decide) ?_
    refine e_top (show ([10, 11, 12, 11, 13, 14] : List Int32).getD 1 0 = nI 11 from rfl) ?_
    refine e_goto 33 dX1_answer_24 (by decide) ?_
    refine e_al1 dX1_answer_33 ?_
    refine e_il2 dX1_answer_34 ?_
    refine e_iconst (nI 0) dX1_answer_35 (by decide) ?_
    refine e_cv dX1_answer_36 vX1_28 (m_give_11_1 hC0 hV h7 hq t (by decide) (by omega) hk) (by decide) rfl rfl (Nat.le_of_ble_eq_true rfl) jBud0 rfl t.1 ?_
    rintro _ h2 ⟨rfl, t⟩
    exact e_iret hX dX1_answer_39 (⟨by rw [s_askV, if_pos c_15, if_neg (by omega), s_lz, if_neg (by omega)], t.cg (by rw [List.nil_append, s_askL, if_pos c_15, if_neg (by omega), hk, l_lz, if_neg (by omega)])⟩) (fun z => z)
set_option maxRecDepth 100000 in
set_option maxHeartbeats 4000000 in
theorem m_X1_answer_2 {h : jH} {w : hw} {f k b p g z : Nat → Nat} (hC : HC h 14 w f k b p g z) (hV : HV w f k b p g) (h7 : w 3 ≤ 7) {q v : Nat} (hq : q < w 3) (hv : v ≤ 1) {tn : Int32} (t1 : h[216]? = some (jO 1 [.ref 217, .int tn])) {f0 : Nat → Nat} (t2 : h[217]? = some (jN 16 f0)) (hk : w (13 + 4 * q) = 2) : jM yX1_answer cX1_answer 5 (some .int) 6 none [.ref 216, .ref 14, .int (nI q), .int (nI v)] h (fun v' h' => v' = some (.int (s_askV w q v)) ∧ cA h h' (s_askL w q v)) := by
  have hqv := hV.2 q hq
  refine jM.ofF (by decide +kernel) rfl (Nat.le_of_ble_eq_true rfl) (fun X hX hI => ?_)
  show jV cX1_answer RX1 6 X none 0 [some (.ref 216), some (.ref 14), some (.int (nI q)), some (.int (nI v)), none] [] h
  refine e_al0 dX1_answer_0 ?_
  refine e_iconst (nI 0) dX1_answer_1 (by decide) ?_
  refine e_put dX1_answer_2 fX1_13 t1 (Nat.le_of_ble_eq_true rfl) (fun g => ⟨rfl, rfl⟩) ?_
  refine e_abs (fun h1 hh => ?_)
  have t : cA h h1 [] := ⟨jhs_at hh t1, ⟨_, jhs hh t2 (by omega), fun i hi => absurd hi (by simp)⟩, jEq.hs hh jEq.rf (Or.inl rfl)⟩
  have hC0 := hC
  replace hC := t.hc hC
  clear hh
  refine e_al1 dX1_answer_5 ?_
  refine e_get dX1_answer_6 fX1_17 hC.1 rfl ?_
  refine e_il2 dX1_answer_9 ?_
  refine e_ialdN dX1_answer_10 hC.2.2.1 (by omega) (by decide) ?_
  rw [hqv.1, hk]
  refine e_is4 dX1_answer_11 rfl ?_
  refine e_al0 dX1_answer_13 ?_
  refine e_il3 dX1_answer_14 ?_
  refine e_if_neN 27 dX1_answer_15 (by decide) (by omega) (fun c_15 => ?_) (fun c_15 => ?_)
  · refine e_gets 4 dX1_answer_27 rfl gX1_25 ?_
    refine e_il4 dX1_answer_30 ?_
    refine e_saldN 4 dX1_answer_32 rfl (by decide) (by decide) ?_
    refine e_top (show ([20, 21, 24, 22, 23, 23] : List Int32).getD 2 0 = nI 24 from rfl) ?_
    refine e_al1 dX1_answer_33 ?_
    refine e_il2 dX1_answer_34 ?_
    refine e_iconst (nI 0) dX1_answer_35 (by decide) ?_
    refine e_cv dX1_answer_36 vX1_28 (m_give_24 hC0 hV h7 hq t (by decide) (by omega)) (by decide) rfl rfl (Nat.le_of_ble_eq_true rfl) jBud0 rfl t.1 ?_
    rintro _ h2 ⟨rfl, t⟩
    exact e_iret hX dX1_answer_39 (⟨by rw [s_askV, if_neg (by omega), if_neg (by omega), s_mk2 hk], t.cg (by rw [List.nil_append, s_askL, if_neg (by omega), if_neg (by omega), hk, l_mk, if_neg (by omega), if_pos rfl])⟩) (fun z => z)
  · refine e_gets 3 dX1_answer_18 rfl gX1_22 ?_
    refine e_il4 dX1_answer_21 ?_
    refine e_saldN 3 dX1_answer_23 rfl (by decide) (by decide) ?_
    refine e_top (show ([10, 11, 12, 11, 13, 14] : List Int32).getD 2 0 = nI 12 from rfl) ?_
    refine e_goto 33 dX1_answer_24 (by decide) ?_
    refine e_al1 dX1_answer_33 ?_
    refine e_il2 dX1_answer_34 ?_
    refine e_iconst (nI 0) dX1_answer_35 (by decide) ?_
    refine e_cv dX1_answer_36 vX1_28 (m_give_12 hC0 hV h7 hq t (by decide) (by omega) hk) (by decide) rfl rfl (Nat.le_of_ble_eq_true rfl) jBud0 rfl t.1 ?_
    rintro _ h2 ⟨rfl, t⟩
    exact e_iret hX dX1_answer_39 (⟨by rw [s_askV, if_pos c_15, if_neg (by omega), s_lz, if_pos hk], t.cg (by rw [List.nil_append, s_askL, if_pos c_15, if_neg (by omega), hk, l_lz, if_pos rfl])⟩) (fun z => z)
set_option maxRecDepth 100000 in
set_option maxHeartbeats 4000000 in
theorem m_X1_answer_3 {h : jH} {w : hw} {f k b p g z : Nat → Nat} (hC : HC h 14 w f k b p g z) (hV : HV w f k b p g) (h7 : w 3 ≤ 7) {q v : Nat} (hq : q < w 3) (hv : v ≤ 1) {tn : Int32} (t1 : h[216]? = some (jO 1 [.ref 217, .int tn])) {f0 : Nat → Nat} (t2 : h[217]? = some (jN 16 f0)) (hk : w (13 + 4 * q) = 3) : jM yX1_answer cX1_answer 5 (some .int) 6 none [.ref 216, .ref 14, .int (nI q), .int (nI v)] h (fun v' h' => v' = some (.int (s_askV w q v)) ∧ cA h h' (s_askL w q v)) := by
  have hqv := hV.2 q hq
  refine jM.ofF (by decide +kernel) rfl (Nat.le_of_ble_eq_true rfl) (fun X hX hI => ?_)
  show jV cX1_answer RX1 6 X none 0 [some (.ref 216), some (.ref 14), some (.int (nI q)), some (.int (nI v)), none] [] h
  refine e_al0 dX1_answer_0 ?_
  refine e_iconst (nI 0) dX1_answer_1 (by decide) ?_
  refine e_put dX1_answer_2 fX1_13 t1 (Nat.le_of_ble_eq_true rfl) (fun g => ⟨rfl, rfl⟩) ?_
  refine e_abs (fun h1 hh => ?_)
  have t : cA h h1 [] := ⟨jhs_at hh t1, ⟨_, jhs hh t2 (by omega), fun i hi => absurd hi (by simp)⟩, jEq.hs hh jEq.rf (Or.inl rfl)⟩
  have hC0 := hC
  replace hC := t.hc hC
  clear hh
  refine e_al1 dX1_answer_5 ?_
  refine e_get dX1_answer_6 fX1_17 hC.1 rfl ?_
  refine e_il2 dX1_answer_9 ?_
  refine e_ialdN dX1_answer_10 hC.2.2.1 (by omega) (by decide) ?_
  rw [hqv.1, hk]
  refine e_is4 dX1_answer_11 rfl ?_
  refine e_al0 dX1_answer_13 ?_
  refine e_il3 dX1_answer_14 ?_
  refine e_if_neN 27 dX1_answer_15 (by decide) (by omega) (fun c_15 => ?_) (fun c_15 => ?_)
  · refine e_gets 4 dX1_answer_27 rfl gX1_25 ?_
    refine e_il4 dX1_answer_30 ?_
    refine e_saldN 4 dX1_answer_32 rfl (by decide) (by decide) ?_
    refine e_top (show ([20, 21, 24, 22, 23, 23] : List Int32).getD 3 0 = nI 22 from rfl) ?_
    refine e_al1 dX1_answer_33 ?_
    refine e_il2 dX1_answer_34 ?_
    refine e_iconst (nI 0) dX1_answer_35 (by decide) ?_
    refine e_cv dX1_answer_36 vX1_28 (m_give_22 hC0 hV h7 hq t (by decide) (by omega)) (by decide) rfl rfl (Nat.le_of_ble_eq_true rfl) jBud0 rfl t.1 ?_
    rintro _ h2 ⟨rfl, t⟩
    exact e_iret hX dX1_answer_39 (⟨by rw [s_askV, if_neg (by omega), if_neg (by omega), s_mk3 hk], t.cg (by rw [List.nil_append, s_askL, if_neg (by omega), if_neg (by omega), hk, l_mk, if_neg (by omega), if_neg (by omega)])⟩) (fun z => z)
  · refine e_gets 3 dX1_answer_18 rfl gX1_22 ?_
    refine e_il4 dX1_answer_21 ?_
    refine e_saldN 3 dX1_answer_23 rfl (by decide) (by decide) ?_
    refine e_top (show ([10, 11, 12, 11, 13, 14] : List Int32).getD 3 0 = nI 11 from rfl) ?_
    refine e_goto 33 dX1_answer_24 (by decide) ?_
    refine e_al1 dX1_answer_33 ?_
    refine e_il2 dX1_answer_34 ?_
    refine e_iconst (nI 0) dX1_answer_35 (by decide) ?_
    refine e_cv dX1_answer_36 vX1_28 (m_give_11_3 hC0 hV h7 hq t (by decide) (by omega) hk) (by decide) rfl rfl (Nat.le_of_ble_eq_true rfl) jBud0 rfl t.1 ?_
    rintro _ h2 ⟨rfl, t⟩
    exact e_iret hX dX1_answer_39 (⟨by rw [s_askV, if_pos c_15, if_neg (by omega), s_lz, if_neg (by omega)], t.cg (by rw [List.nil_append, s_askL, if_pos c_15, if_neg (by omega), hk, l_lz, if_neg (by omega)])⟩) (fun z => z)
set_option maxRecDepth 100000 in
set_option maxHeartbeats 4000000 in
theorem m_X1_answer_4 {h : jH} {w : hw} {f k b p g z : Nat → Nat} (hC : HC h 14 w f k b p g z) (hV : HV w f k b p g) (h7 : w 3 ≤ 7) {q v : Nat} (hq : q < w 3) (hv : v ≤ 1) {tn : Int32} (t1 : h[216]? = some (jO 1 [.ref 217, .int tn])) {f0 : Nat → Nat} (t2 : h[217]? = some (jN 16 f0)) (hk : w (13 + 4 * q) = 4) : jM yX1_answer cX1_answer 5 (some .int) 6 none [.ref 216, .ref 14, .int (nI q), .int (nI v)] h (fun v' h' => v' = some (.int (s_askV w q v)) ∧ cA h h' (s_askL w q v)) := by
  have hqv := hV.2 q hq
  refine jM.ofF (by decide +kernel) rfl (Nat.le_of_ble_eq_true rfl) (fun X hX hI => ?_)
  show jV cX1_answer RX1 6 X none 0 [some (.ref 216), some (.ref 14), some (.int (nI q)), some (.int (nI v)), none] [] h
  refine e_al0 dX1_answer_0 ?_
  refine e_iconst (nI 0) dX1_answer_1 (by decide) ?_
  refine e_put dX1_answer_2 fX1_13 t1 (Nat.le_of_ble_eq_true rfl) (fun g => ⟨rfl, rfl⟩) ?_
  refine e_abs (fun h1 hh => ?_)
  have t : cA h h1 [] := ⟨jhs_at hh t1, ⟨_, jhs hh t2 (by omega), fun i hi => absurd hi (by simp)⟩, jEq.hs hh jEq.rf (Or.inl rfl)⟩
  have hC0 := hC
  replace hC := t.hc hC
  clear hh
  refine e_al1 dX1_answer_5 ?_
  refine e_get dX1_answer_6 fX1_17 hC.1 rfl ?_
  refine e_il2 dX1_answer_9 ?_
  refine e_ialdN dX1_answer_10 hC.2.2.1 (by omega) (by decide) ?_
  rw [hqv.1, hk]
  refine e_is4 dX1_answer_11 rfl ?_
  refine e_al0 dX1_answer_13 ?_
  refine e_il3 dX1_answer_14 ?_
  refine e_if_neN 27 dX1_answer_15 (by decide) (by omega) (fun c_15 => ?_) (fun c_15 => ?_)
  · refine e_gets 4 dX1_answer_27 rfl gX1_25 ?_
    refine e_il4 dX1_answer_30 ?_
    refine e_saldN 4 dX1_answer_32 rfl (by decide) (by decide) ?_
    refine e_top (show ([20, 21, 24, 22, 23, 23] : List Int32).getD 4 0 = nI 23 from rfl) ?_
    refine e_al1 dX1_answer_33 ?_
    refine e_il2 dX1_answer_34 ?_
    refine e_iconst (nI 0) dX1_answer_35 (by decide) ?_
    refine e_cv dX1_answer_36 vX1_28 (m_give_23_4 hC0 hV h7 hq t (by decide) (by omega) hk) (by decide) rfl rfl (Nat.le_of_ble_eq_true rfl) jBud0 rfl t.1 ?_
    rintro _ h2 ⟨rfl, t⟩
    exact e_iret hX dX1_answer_39 (⟨by rw [s_askV, if_neg (by omega), if_pos (by omega)], t.cg (by rw [List.nil_append, s_askL, if_neg (by omega), if_pos (by omega), hk])⟩) (fun z => z)
  · refine e_gets 3 dX1_answer_18 rfl gX1_22 ?_
    refine e_il4 dX1_answer_21 ?_
    refine e_saldN 3 dX1_answer_23 rfl (by decide) (by decide) ?_
    refine e_top (show ([10, 11, 12, 11, 13, 14] : List Int32).getD 4 0 = nI 13 from rfl) ?_
    refine e_goto 33 dX1_answer_24 (by decide) ?_
    refine e_al1 dX1_answer_33 ?_
    refine e_il2 dX1_answer_34 ?_
    refine e_iconst (nI 0) dX1_answer_35 (by decide) ?_
    refine e_cv dX1_answer_36 vX1_28 (m_give_13 hC0 hV h7 hq t (by decide) (by omega)) (by decide) rfl rfl (Nat.le_of_ble_eq_true rfl) jBud0 rfl t.1 ?_
    rintro _ h2 ⟨rfl, t⟩
    exact e_iret hX dX1_answer_39 (⟨by rw [s_askV, if_pos c_15, if_pos (by omega), s_ts4 hk], t.cg (by rw [List.nil_append, s_askL, if_pos c_15, if_pos (by omega), hk, l_ts, if_neg (by omega)])⟩) (fun z => z)
set_option maxRecDepth 100000 in
set_option maxHeartbeats 4000000 in
theorem m_X1_answer_5 {h : jH} {w : hw} {f k b p g z : Nat → Nat} (hC : HC h 14 w f k b p g z) (hV : HV w f k b p g) (h7 : w 3 ≤ 7) {q v : Nat} (hq : q < w 3) (hv : v ≤ 1) {tn : Int32} (t1 : h[216]? = some (jO 1 [.ref 217, .int tn])) {f0 : Nat → Nat} (t2 : h[217]? = some (jN 16 f0)) (hk : w (13 + 4 * q) = 5) : jM yX1_answer cX1_answer 5 (some .int) 6 none [.ref 216, .ref 14, .int (nI q), .int (nI v)] h (fun v' h' => v' = some (.int (s_askV w q v)) ∧ cA h h' (s_askL w q v)) := by
  have hqv := hV.2 q hq
  refine jM.ofF (by decide +kernel) rfl (Nat.le_of_ble_eq_true rfl) (fun X hX hI => ?_)
  show jV cX1_answer RX1 6 X none 0 [some (.ref 216), some (.ref 14), some (.int (nI q)), some (.int (nI v)), none] [] h
  refine e_al0 dX1_answer_0 ?_
  refine e_iconst (nI 0) dX1_answer_1 (by decide) ?_
  refine e_put dX1_answer_2 fX1_13 t1 (Nat.le_of_ble_eq_true rfl) (fun g => ⟨rfl, rfl⟩) ?_
  refine e_abs (fun h1 hh => ?_)
  have t : cA h h1 [] := ⟨jhs_at hh t1, ⟨_, jhs hh t2 (by omega), fun i hi => absurd hi (by simp)⟩, jEq.hs hh jEq.rf (Or.inl rfl)⟩
  have hC0 := hC
  replace hC := t.hc hC
  clear hh
  refine e_al1 dX1_answer_5 ?_
  refine e_get dX1_answer_6 fX1_17 hC.1 rfl ?_
  refine e_il2 dX1_answer_9 ?_
  refine e_ialdN dX1_answer_10 hC.2.2.1 (by omega) (by decide) ?_
  rw [hqv.1, hk]
  refine e_is4 dX1_answer_11 rfl ?_
  refine e_al0 dX1_answer_13 ?_
  refine e_il3 dX1_answer_14 ?_
  refine e_if_neN 27 dX1_answer_15 (by decide) (by omega) (fun c_15 => ?_) (fun c_15 => ?_)
  · refine e_gets 4 dX1_answer_27 rfl gX1_25 ?_
    refine e_il4 dX1_answer_30 ?_
    refine e_saldN 4 dX1_answer_32 rfl (by decide) (by decide) ?_
    refine e_top (show ([20, 21, 24, 22, 23, 23] : List Int32).getD 5 0 = nI 23 from rfl) ?_
    refine e_al1 dX1_answer_33 ?_
    refine e_il2 dX1_answer_34 ?_
    refine e_iconst (nI 0) dX1_answer_35 (by decide) ?_
    refine e_cv dX1_answer_36 vX1_28 (m_give_23_5 hC0 hV h7 hq t (by decide) (by omega) hk) (by decide) rfl rfl (Nat.le_of_ble_eq_true rfl) jBud0 rfl t.1 ?_
    rintro _ h2 ⟨rfl, t⟩
    exact e_iret hX dX1_answer_39 (⟨by rw [s_askV, if_neg (by omega), if_pos (by omega)], t.cg (by rw [List.nil_append, s_askL, if_neg (by omega), if_pos (by omega), hk])⟩) (fun z => z)
  · refine e_gets 3 dX1_answer_18 rfl gX1_22 ?_
    refine e_il4 dX1_answer_21 ?_
    refine e_saldN 3 dX1_answer_23 rfl (by decide) (by decide) ?_
    refine e_top (show ([10, 11, 12, 11, 13, 14] : List Int32).getD 5 0 = nI 14 from rfl) ?_
    refine e_goto 33 dX1_answer_24 (by decide) ?_
    refine e_al1 dX1_answer_33 ?_
    refine e_il2 dX1_answer_34 ?_
    refine e_iconst (nI 0) dX1_answer_35 (by decide) ?_
    refine e_cv dX1_answer_36 vX1_28 (m_give_14 hC0 hV h7 hq t (by decide) (by omega)) (by decide) rfl rfl (Nat.le_of_ble_eq_true rfl) jBud0 rfl t.1 ?_
    rintro _ h2 ⟨rfl, t⟩
    exact e_iret hX dX1_answer_39 (⟨by rw [s_askV, if_pos c_15, if_pos (by omega), s_ts5 hk], t.cg (by rw [List.nil_append, s_askL, if_pos c_15, if_pos (by omega), hk, l_ts, if_pos rfl])⟩) (fun z => z)
set_option maxRecDepth 100000 in
set_option maxHeartbeats 4000000 in
theorem m_X1_answer {h : jH} {w : hw} {f k b p g z : Nat → Nat} (hC : HC h 14 w f k b p g z) (hV : HV w f k b p g) (ok : g_ok w) {q v : Nat} (hq : q < w 3) (hv : v ≤ 1) {tn : Int32} (t1 : h[216]? = some (jO 1 [.ref 217, .int tn])) {f0 : Nat → Nat} (t2 : h[217]? = some (jN 16 f0)) : jM yX1_answer cX1_answer 5 (some .int) 6 none [.ref 216, .ref 14, .int (nI q), .int (nI v)] h (fun v' h' => v' = some (.int (s_askV w q v)) ∧ cA h h' (s_askL w q v)) := by
  obtain ⟨a1, a2, -⟩ := ok.2.2.2.2.2 q hq
  have h7 := ok.2.2.2.1
  rcases (show w (13 + 4 * q) = 1 ∨ w (13 + 4 * q) = 2 ∨ w (13 + 4 * q) = 3 ∨ w (13 + 4 * q) = 4 ∨ w (13 + 4 * q) = 5 by omega) with e | e | e | e | e
  · exact m_X1_answer_1 hC hV h7 hq hv t1 t2 e
  · exact m_X1_answer_2 hC hV h7 hq hv t1 t2 e
  · exact m_X1_answer_3 hC hV h7 hq hv t1 t2 e
  · exact m_X1_answer_4 hC hV h7 hq hv t1 t2 e
  · exact m_X1_answer_5 hC hV h7 hq hv t1 t2 e
set_option maxRecDepth 100000 in
set_option maxHeartbeats 4000000 in
theorem c_ask {h : jH} {S : jS} (c : CI h S) (g : SG S) {x v : Int32} : jM yX6_ask cX6_ask 3 (some .int) 7 none [.ref 0, .int x, .int v] h (cAns h (sp_ask x v S)) := by
  obtain ⟨c1, c2, c3, c4, c5, c6, c7, c8⟩ := id c
  obtain ⟨g0, g1, g2, ⟨ok, gd, gh⟩, ⟨ga, gp⟩, gi, gt⟩ := id g
  obtain ⟨k0, k1, k2, k3, k4, k5⟩ := id ok
  obtain ⟨f, k, b, p, gg, z, hC, hV⟩ := id c4
  obtain ⟨nx, rf, hnx, hac, -⟩ := id c5
  obtain ⟨⟨at_, ht⟩, hx6, B, hB, hb⟩ := id c3
  obtain ⟨⟨rfi, hi1, hi2⟩, hi3⟩ := id c6
  obtain ⟨hk1, fk_, hk2, hk3⟩ := id c8
  obtain ⟨hf1, hf2, hf3, hf4⟩ := id c7
  refine jM.ofF (by decide +kernel) rfl (Nat.le_of_ble_eq_true rfl) (fun X hX hI => ?_)
  show jV cX6_ask RX6 7 X none 0 [some (.ref 0), some (.int x), some (.int v)] [] h
  refine e_al0 dX6_ask_0 ?_
  refine e_il1 dX6_ask_1 ?_
  refine e_cv dX6_ask_2 vX6_158 (m_X6_isPair c1 c4 (by omega)) (by decide) rfl rfl (Nat.le_of_ble_eq_true rfl) jBud0 rfl c1 ?_
  rintro _ _ ⟨rfl, rfl⟩
  refine e_if_eqB 17 dX6_ask_5 (by decide) (fun c_5 => ?_) (fun c_5 => ?_)
  · refine e_ldc dX6_ask_17 kX6_67 ?_
    exact e_iret hX dX6_ask_19 (by rw [sp_ask, if_neg c_5]; exact cAns.same c rfl) (fun z => z)
  · refine e_il2 dX6_ask_8 ?_
    refine e_iconst (nI 0) dX6_ask_9 (by decide) ?_
    refine e_iconst (nI 1) dX6_ask_10 (by decide) ?_
    refine e_cs dX6_ask_11 sX6_63 (m_X6_isWithinR (by decide) (by decide)) (by decide) rfl rfl (Nat.le_of_ble_eq_true rfl) jBud0 ?_
    rintro _ _ ⟨rfl, rfl⟩
    refine e_if_neB 20 dX6_ask_14 (by decide) (fun c_14 => ?_) (fun c_14 => ?_)
    · obtain ⟨a, ha, rfl⟩ := iN_of c_5 (by omega)
      have ea : (nI a).toNatClampNeg = a := nI_clamp (by omega)
      obtain ⟨v, lv, hv, rfl⟩ := iR_of c_14 (by decide)
      have ev : (nI v).toNatClampNeg = v := nI_clamp (by omega)
      refine e_al0 dX6_ask_20 ?_
      refine e_get dX6_ask_21 fX6_51 c1 rfl ?_
      refine e_al0 dX6_ask_24 ?_
      refine e_get dX6_ask_25 fX6_26 c1 rfl ?_
      refine e_il1 dX6_ask_28 ?_
      refine e_il2 dX6_ask_29 ?_
      refine e_cv dX6_ask_30 vX6_263 (m_X1_answer hC hV ok ha hv hk1 hk2) (by decide) rfl rfl (Nat.le_of_ble_eq_true rfl) jBud0 rfl hk1 ?_
      rintro _ h1 ⟨rfl, t⟩
      exact e_iret hX dX6_ask_33 (by
        rw [sp_ask, if_pos c_5, if_pos c_14, ea, ev]
        exact ⟨rfl, c.ca t, t.lo⟩) (fun z => z)
    · refine e_ldc dX6_ask_17 kX6_67 ?_
      exact e_iret hX dX6_ask_19 (by rw [sp_ask, if_pos c_5, if_neg c_14]; exact cAns.same c rfl) (fun z => z)
set_option maxRecDepth 100000 in
set_option maxHeartbeats 4000000 in
theorem c_as {h : jH} {S : jS} (c : CI h S) (g : SG S) {x v : Int32} : jM yX6_as cX6_as 3 (some .int) 2 none [.ref 0, .int x, .int v] h (cAns h (sp_as x v S)) := by
  obtain ⟨c1, c2, c3, c4, c5, c6, c7, c8⟩ := id c
  obtain ⟨g0, g1, g2, ⟨ok, gd, gh⟩, ⟨ga, gp⟩, gi, gt⟩ := id g
  obtain ⟨k0, k1, k2, k3, k4, k5⟩ := id ok
  obtain ⟨f, k, b, p, gg, z, hC, hV⟩ := id c4
  obtain ⟨nx, rf, hnx, hac, -⟩ := id c5
  obtain ⟨⟨at_, ht⟩, hx6, B, hB, hb⟩ := id c3
  obtain ⟨⟨rfi, hi1, hi2⟩, hi3⟩ := id c6
  obtain ⟨hk1, fk_, hk2, hk3⟩ := id c8
  obtain ⟨hf1, hf2, hf3, hf4⟩ := id c7
  refine jM.ofF (by decide +kernel) rfl (Nat.le_of_ble_eq_true rfl) (fun X hX hI => ?_)
  show jV cX6_as RX6 2 X none 0 [some (.ref 0), some (.int x), some (.int v)] [] h
  refine e_al0 dX6_as_0 ?_
  refine e_il1 dX6_as_1 ?_
  refine e_cv dX6_as_2 vX6_158 (m_X6_isPair c1 c4 (by omega)) (by decide) rfl rfl (Nat.le_of_ble_eq_true rfl) jBud0 rfl c1 ?_
  rintro _ _ ⟨rfl, rfl⟩
  refine e_if_eqB 17 dX6_as_5 (by decide) (fun c_5 => ?_) (fun c_5 => ?_)
  · refine e_ldc dX6_as_17 kX6_67 ?_
    exact e_iret hX dX6_as_19 (by rw [sp_as, if_neg c_5]; exact cAns.same c rfl) (fun z => z)
  · refine e_il2 dX6_as_8 ?_
    refine e_iconst (nI 0) dX6_as_9 (by decide) ?_
    refine e_iconst (nI 5) dX6_as_10 (by decide) ?_
    refine e_cs dX6_as_11 sX6_63 (m_X6_isWithinR (by decide) (by decide)) (by decide) rfl rfl (Nat.le_of_ble_eq_true rfl) jBud0 ?_
    rintro _ _ ⟨rfl, rfl⟩
    refine e_if_neB 20 dX6_as_14 (by decide) (fun c_14 => ?_) (fun c_14 => ?_)
    · obtain ⟨a, ha, rfl⟩ := iN_of c_5 (by omega)
      have ea : (nI a).toNatClampNeg = a := nI_clamp (by omega)
      obtain ⟨v, lv, hv, rfl⟩ := iR_of c_14 (by decide)
      have ev : (nI v).toNatClampNeg = v := nI_clamp (by omega)
      have hva := hV.2 a ha
      have k5a := k5 a ha
      refine e_al0 dX6_as_20 ?_
      refine e_get dX6_as_21 fX6_26 c1 rfl ?_
      refine e_get dX6_as_24 fX6_256 hC.1 rfl ?_
      refine e_il1 dX6_as_27 ?_
      refine e_ialdN dX6_as_28 hC.2.2.1 (by omega) (by decide) ?_
      rw [hva.1]
      refine e_il2 dX6_as_29 ?_
      refine e_cs dX6_as_30 sX6_259 (m_X6_isOneOf (by omega) (by omega) (by omega)) (by decide) rfl rfl (Nat.le_of_ble_eq_true rfl) jBud0 ?_
      rintro _ _ ⟨rfl, rfl⟩
      refine e_if_neB 42 dX6_as_33 (by decide) (fun c_33 => ?_) (fun c_33 => ?_)
      · refine e_al0 dX6_as_42 ?_
        refine e_il1 dX6_as_43 ?_
        refine e_cv dX6_as_44 vX6_76 (m_X6_unfound c1) (by decide) rfl rfl (Nat.le_of_ble_eq_true rfl) jBud0 rfl c1 ?_
        rintro _ h1 ⟨rfl, t1, E1⟩
        exact e_iret hX dX6_as_47 (by rw [sp_as, if_pos c_5, if_pos c_14, if_pos (by rw [ea, ev]; exact c_33)]; exact ⟨rfl, c.st t1 E1, E1.mono (fun j q => by unfold jLo; omega)⟩) (fun z => z)
      · refine e_al0 dX6_as_36 ?_
        refine e_iconst (nI 3) dX6_as_37 (by decide) ?_
        refine e_cv dX6_as_38 vX6_68 (m_X6_found c1) (by decide) rfl rfl (Nat.le_of_ble_eq_true rfl) jBud0 rfl c1 ?_
        rintro _ h1 ⟨rfl, t1, E1⟩
        exact e_iret hX dX6_as_41 (by rw [sp_as, if_pos c_5, if_pos c_14, if_neg (by rw [ea, ev]; exact c_33)]; exact ⟨rfl, c.st t1 E1, E1.mono (fun j q => by unfold jLo; omega)⟩) (fun z => z)
    · refine e_ldc dX6_as_17 kX6_67 ?_
      exact e_iret hX dX6_as_19 (by rw [sp_as, if_pos c_5, if_neg c_14]; exact cAns.same c rfl) (fun z => z)
set_option maxRecDepth 100000 in
set_option maxHeartbeats 4000000 in
theorem m_X7_begins {h0 h : jH} {s : Nat → Int32} {L : List Nat} {b : Nat} (t : rA h0 h s L) (hl : L.length < 16) : jM yX7_begins cX7_begins 2 (none : Option Jvm.ClassFile.FieldType) 0 none [.ref 218, .int (nI b)] h (fun v h' => v = none ∧ rA h0 h' s (L ++ [b])) := by
  obtain ⟨t1, ⟨f, t2, hf⟩, E⟩ := t
  refine jM.ofF (by decide +kernel) rfl (Nat.le_of_ble_eq_true rfl) (fun X hX hI => ?_)
  show jV cX7_begins RX7 0 X none 0 [some (.ref 218), some (.int (nI b))] [] h
  refine e_al0 dX7_begins_0 ?_
  refine e_get dX7_begins_1 fX7_243 t1 rfl ?_
  rw [show upd s 9 (nI L.length) 9 = nI L.length from rfl]
  refine e_bipush (nI 16) dX7_begins_4 (by decide) ?_
  refine e_ic_geN 29 dX7_begins_6 (by decide) (by omega) (by omega) (fun c_6 => ?_) (fun c_6 => ?_)
  · omega
  · refine e_al0 dX7_begins_9 ?_
    refine e_get dX7_begins_10 fX7_56 t1 rfl ?_
    refine e_al0 dX7_begins_13 ?_
    refine e_get dX7_begins_14 fX7_243 t1 rfl ?_
    rw [show upd s 9 (nI L.length) 9 = nI L.length from rfl]
    refine e_il1 dX7_begins_17 ?_
    refine e_iastN dX7_begins_18 t2 (by omega) (by decide) ?_
    refine e_abs (fun h1 hh => ?_)
    replace t1 := jhs hh t1 (by omega)
    replace t2 := jhs_at hh t2
    replace E := jEq.hs hh E (Or.inr rfl)
    clear hh
    refine e_al0 dX7_begins_19 ?_
    refine e_dup dX7_begins_20 rfl ?_
    refine e_get dX7_begins_21 fX7_243 t1 rfl ?_
    rw [show upd s 9 (nI L.length) 9 = nI L.length from rfl]
    refine e_iconst (nI 1) dX7_begins_24 (by decide) ?_
    refine e_iaddN dX7_begins_25 ?_
    refine e_put dX7_begins_26 fX7_243 t1 (Nat.le_of_ble_eq_true rfl) (fun g => ⟨rfl, rfl⟩) ?_
    refine e_abs (fun h2 hh => ?_)
    replace t1 : RO h2 (upd s 9 (nI (L.length + 1))) := jhs_at hh t1
    replace t2 := jhs hh t2 (by omega)
    replace E := jEq.hs hh E (Or.inl rfl)
    clear hh
    exact e_ret hX dX7_begins_29 (⟨rfl, by rw [List.length_append, List.length_singleton]; exact t1, ⟨_, t2, L_push hf⟩, E⟩) (fun z => z)
set_option maxRecDepth 100000 in
set_option maxHeartbeats 4000000 in
theorem m_X7_leatherMark {h0 h : jH} {s : Nat → Int32} {L : List Nat} {w : hw} (hW : h0[224]? = some (jN 41 w)) (ok : g_ok w) {q : Nat} (hq : q < w 3) (t : rA h0 h s L) (hl : L.length + 3 ≤ 16) (hk4 : w (13 + 4 * q) < 4) : jM yX7_leatherMark cX7_leatherMark 4 (some .int) 1 none [.ref 218, .int (nI q)] h (fun v h' => v = some (.int (s_mk w q)) ∧ rA h0 h' s (L ++ l_mk (w (13 + 4 * q)))) := by
  have h7 := ok.2.2.2.1
  obtain ⟨a1, a2, -⟩ := ok.2.2.2.2.2 q hq
  refine jM.ofF (by decide +kernel) rfl (Nat.le_of_ble_eq_true rfl) (fun X hX hI => ?_)
  show jV cX7_leatherMark RX7 1 X none 0 [some (.ref 218), some (.int (nI q)), none, none] [] h
  refine e_al0 dX7_leatherMark_0 ?_
  refine e_il1 dX7_leatherMark_1 ?_
  refine e_cv dX7_leatherMark_2 vX7_240 (m_X7_kindIn t.1 (t.2.2.at (by omega) hW) (by omega)) (by decide) rfl rfl (Nat.le_of_ble_eq_true rfl) jBud0 rfl t.1 ?_
  rintro _ _ ⟨rfl, rfl⟩
  refine e_is2 dX7_leatherMark_5 rfl ?_
  refine e_il2 dX7_leatherMark_6 ?_
  refine e_iconst (nI 1) dX7_leatherMark_7 (by decide) ?_
  refine e_ic_eqN 27 dX7_leatherMark_8 (by decide) (by omega) (by omega) (fun c_8 => ?_) (fun c_8 => ?_)
  · refine e_al0 dX7_leatherMark_27 ?_
    refine e_bipush (nI 21) dX7_leatherMark_28 (by decide) ?_
    refine e_cv dX7_leatherMark_30 vX7_246 (m_X7_begins t (by (try simp only [List.length_append, List.length_cons, List.length_nil]); omega)) (by decide) rfl rfl (Nat.le_of_ble_eq_true rfl) jBud0 rfl t.1 ?_
    rintro _ h1 ⟨rfl, t⟩
    refine e_al0 dX7_leatherMark_33 ?_
    refine e_bipush (nI 20) dX7_leatherMark_34 (by decide) ?_
    refine e_cv dX7_leatherMark_36 vX7_246 (m_X7_begins t (by (try simp only [List.length_append, List.length_cons, List.length_nil]); omega)) (by decide) rfl rfl (Nat.le_of_ble_eq_true rfl) jBud0 rfl t.1 ?_
    rintro _ h1 ⟨rfl, t⟩
    refine e_il1 dX7_leatherMark_39 ?_
    refine e_al0 dX7_leatherMark_40 ?_
    refine e_get dX7_leatherMark_41 fX7_25 t.1 rfl ?_
    refine e_bipush (nI 13) dX7_leatherMark_44 (by decide) ?_
    refine e_iconst (nI 4) dX7_leatherMark_46 (by decide) ?_
    refine e_il1 dX7_leatherMark_47 ?_
    refine e_imulN dX7_leatherMark_48 ?_
    refine e_iaddN dX7_leatherMark_49 ?_
    refine e_iconst (nI 2) dX7_leatherMark_50 (by decide) ?_
    refine e_iaddN dX7_leatherMark_51 ?_
    refine e_ialdN dX7_leatherMark_52 (t.2.2.at (by omega) hW) (by omega) (by decide) ?_
    refine e_iaddN dX7_leatherMark_53 ?_
    refine e_is3 dX7_leatherMark_54 rfl ?_
    refine e_il2 dX7_leatherMark_55 ?_
    refine e_iconst (nI 2) dX7_leatherMark_56 (by decide) ?_
    refine e_ic_neN 66 dX7_leatherMark_57 (by decide) (by omega) (by omega) (fun c_57 => ?_) (fun c_57 => ?_)
    · refine e_il2 dX7_leatherMark_66 ?_
      refine e_iconst (nI 3) dX7_leatherMark_67 (by decide) ?_
      refine e_ic_neN 79 dX7_leatherMark_68 (by decide) (by omega) (by omega) (fun c_68 => ?_) (fun c_68 => ?_)
      · refine e_il3 dX7_leatherMark_79 ?_
        exact e_iret hX dX7_leatherMark_80 (⟨by rw [s_mk1 c_8], t.cg (by rw [l_mk, if_pos c_8]; simp only [List.append_assoc, List.cons_append, List.nil_append])⟩) (fun z => z)
      · refine e_il3 dX7_leatherMark_71 ?_
        refine e_sipush (nI 1000) dX7_leatherMark_72 (by decide) ?_
        refine e_isub dX7_leatherMark_75 ?_
        refine e_goto 80 dX7_leatherMark_76 (by decide) ?_
        exact e_iret hX dX7_leatherMark_80 (absurd c_68 (by omega)) (fun z => z)
    · refine e_iconst (nI 2) dX7_leatherMark_60 (by decide) ?_
      refine e_il3 dX7_leatherMark_61 ?_
      refine e_imulN dX7_leatherMark_62 ?_
      refine e_goto 80 dX7_leatherMark_63 (by decide) ?_
      exact e_iret hX dX7_leatherMark_80 (absurd c_57 (by omega)) (fun z => z)
  · refine e_al0 dX7_leatherMark_11 ?_
    refine e_il2 dX7_leatherMark_12 ?_
    refine e_iconst (nI 2) dX7_leatherMark_13 (by decide) ?_
    refine e_ic_neN 22 dX7_leatherMark_14 (by decide) (by omega) (by omega) (fun c_14 => ?_) (fun c_14 => ?_)
    · refine e_bipush (nI 22) dX7_leatherMark_22 (by decide) ?_
      refine e_cv dX7_leatherMark_24 vX7_246 (m_X7_begins t (by (try simp only [List.length_append, List.length_cons, List.length_nil]); omega)) (by decide) rfl rfl (Nat.le_of_ble_eq_true rfl) jBud0 rfl t.1 ?_
      rintro _ h1 ⟨rfl, t⟩
      refine e_al0 dX7_leatherMark_27 ?_
      refine e_bipush (nI 21) dX7_leatherMark_28 (by decide) ?_
      refine e_cv dX7_leatherMark_30 vX7_246 (m_X7_begins t (by (try simp only [List.length_append, List.length_cons, List.length_nil]); omega)) (by decide) rfl rfl (Nat.le_of_ble_eq_true rfl) jBud0 rfl t.1 ?_
      rintro _ h1 ⟨rfl, t⟩
      refine e_al0 dX7_leatherMark_33 ?_
      refine e_bipush (nI 20) dX7_leatherMark_34 (by decide) ?_
      refine e_cv dX7_leatherMark_36 vX7_246 (m_X7_begins t (by (try simp only [List.length_append, List.length_cons, List.length_nil]); omega)) (by decide) rfl rfl (Nat.le_of_ble_eq_true rfl) jBud0 rfl t.1 ?_
      rintro _ h1 ⟨rfl, t⟩
      refine e_il1 dX7_leatherMark_39 ?_
      refine e_al0 dX7_leatherMark_40 ?_
      refine e_get dX7_leatherMark_41 fX7_25 t.1 rfl ?_
      refine e_bipush (nI 13) dX7_leatherMark_44 (by decide) ?_
      refine e_iconst (nI 4) dX7_leatherMark_46 (by decide) ?_
      refine e_il1 dX7_leatherMark_47 ?_
      refine e_imulN dX7_leatherMark_48 ?_
      refine e_iaddN dX7_leatherMark_49 ?_
      refine e_iconst (nI 2) dX7_leatherMark_50 (by decide) ?_
      refine e_iaddN dX7_leatherMark_51 ?_
      refine e_ialdN dX7_leatherMark_52 (t.2.2.at (by omega) hW) (by omega) (by decide) ?_
      refine e_iaddN dX7_leatherMark_53 ?_
      refine e_is3 dX7_leatherMark_54 rfl ?_
      refine e_il2 dX7_leatherMark_55 ?_
      refine e_iconst (nI 2) dX7_leatherMark_56 (by decide) ?_
      refine e_ic_neN 66 dX7_leatherMark_57 (by decide) (by omega) (by omega) (fun c_57 => ?_) (fun c_57 => ?_)
      · refine e_il2 dX7_leatherMark_66 ?_
        refine e_iconst (nI 3) dX7_leatherMark_67 (by decide) ?_
        refine e_ic_neN 79 dX7_leatherMark_68 (by decide) (by omega) (by omega) (fun c_68 => ?_) (fun c_68 => ?_)
        · refine e_il3 dX7_leatherMark_79 ?_
          exact e_iret hX dX7_leatherMark_80 (absurd c_68 (by omega)) (fun z => z)
        · refine e_il3 dX7_leatherMark_71 ?_
          refine e_sipush (nI 1000) dX7_leatherMark_72 (by decide) ?_
          refine e_isub dX7_leatherMark_75 ?_
          refine e_goto 80 dX7_leatherMark_76 (by decide) ?_
          exact e_iret hX dX7_leatherMark_80 (⟨by rw [s_mk3 c_68], t.cg (by rw [l_mk, if_neg c_8, if_neg c_14]; simp only [List.append_assoc, List.cons_append, List.nil_append])⟩) (fun z => z)
      · refine e_iconst (nI 2) dX7_leatherMark_60 (by decide) ?_
        refine e_il3 dX7_leatherMark_61 ?_
        refine e_imulN dX7_leatherMark_62 ?_
        refine e_goto 80 dX7_leatherMark_63 (by decide) ?_
        exact e_iret hX dX7_leatherMark_80 (absurd c_57 c_14) (fun z => z)
    · refine e_bipush (nI 24) dX7_leatherMark_17 (by decide) ?_
      refine e_goto 24 dX7_leatherMark_19 (by decide) ?_
      refine e_cv dX7_leatherMark_24 vX7_246 (m_X7_begins t (by (try simp only [List.length_append, List.length_cons, List.length_nil]); omega)) (by decide) rfl rfl (Nat.le_of_ble_eq_true rfl) jBud0 rfl t.1 ?_
      rintro _ h1 ⟨rfl, t⟩
      refine e_al0 dX7_leatherMark_27 ?_
      refine e_bipush (nI 21) dX7_leatherMark_28 (by decide) ?_
      refine e_cv dX7_leatherMark_30 vX7_246 (m_X7_begins t (by (try simp only [List.length_append, List.length_cons, List.length_nil]); omega)) (by decide) rfl rfl (Nat.le_of_ble_eq_true rfl) jBud0 rfl t.1 ?_
      rintro _ h1 ⟨rfl, t⟩
      refine e_al0 dX7_leatherMark_33 ?_
      refine e_bipush (nI 20) dX7_leatherMark_34 (by decide) ?_
      refine e_cv dX7_leatherMark_36 vX7_246 (m_X7_begins t (by (try simp only [List.length_append, List.length_cons, List.length_nil]); omega)) (by decide) rfl rfl (Nat.le_of_ble_eq_true rfl) jBud0 rfl t.1 ?_
      rintro _ h1 ⟨rfl, t⟩
      refine e_il1 dX7_leatherMark_39 ?_
      refine e_al0 dX7_leatherMark_40 ?_
      refine e_get dX7_leatherMark_41 fX7_25 t.1 rfl ?_
      refine e_bipush (nI 13) dX7_leatherMark_44 (by decide) ?_
      refine e_iconst (nI 4) dX7_leatherMark_46 (by decide) ?_
      refine e_il1 dX7_leatherMark_47 ?_
      refine e_imulN dX7_leatherMark_48 ?_
      refine e_iaddN dX7_leatherMark_49 ?_
      refine e_iconst (nI 2) dX7_leatherMark_50 (by decide) ?_
      refine e_iaddN dX7_leatherMark_51 ?_
      refine e_ialdN dX7_leatherMark_52 (t.2.2.at (by omega) hW) (by omega) (by decide) ?_
      refine e_iaddN dX7_leatherMark_53 ?_
      refine e_is3 dX7_leatherMark_54 rfl ?_
      refine e_il2 dX7_leatherMark_55 ?_
      refine e_iconst (nI 2) dX7_leatherMark_56 (by decide) ?_
      refine e_ic_neN 66 dX7_leatherMark_57 (by decide) (by omega) (by omega) (fun c_57 => ?_) (fun c_57 => ?_)
      · refine e_il2 dX7_leatherMark_66 ?_
        refine e_iconst (nI 3) dX7_leatherMark_67 (by decide) ?_
        refine e_ic_neN 79 dX7_leatherMark_68 (by decide) (by omega) (by omega) (fun c_68 => ?_) (fun c_68 => ?_)
        · refine e_il3 dX7_leatherMark_79 ?_
          exact e_iret hX dX7_leatherMark_80 (absurd c_14 c_57) (fun z => z)
        · refine e_il3 dX7_leatherMark_71 ?_
          refine e_sipush (nI 1000) dX7_leatherMark_72 (by decide) ?_
          refine e_isub dX7_leatherMark_75 ?_
          refine e_goto 80 dX7_leatherMark_76 (by decide) ?_
          exact e_iret hX dX7_leatherMark_80 (absurd c_14 c_57) (fun z => z)
      · refine e_iconst (nI 2) dX7_leatherMark_60 (by decide) ?_
        refine e_il3 dX7_leatherMark_61 ?_
        refine e_imulN dX7_leatherMark_62 ?_
        refine e_goto 80 dX7_leatherMark_63 (by decide) ?_
        exact e_iret hX dX7_leatherMark_80 (⟨by rw [s_mk2 c_14], t.cg (by rw [l_mk, if_neg c_8, if_pos c_14]; simp only [List.append_assoc, List.cons_append, List.nil_append])⟩) (fun z => z)
set_option maxRecDepth 100000 in
set_option maxHeartbeats 4000000 in
theorem m_X7_tinSize {h0 h : jH} {s : Nat → Int32} {L : List Nat} {w : hw} (hW : h0[224]? = some (jN 41 w)) (ok : g_ok w) {q : Nat} (hq : q < w 3) (t : rA h0 h s L) (hl : L.length + 3 ≤ 16) (hk4 : 4 ≤ w (13 + 4 * q)) : jM yX7_tinSize cX7_tinSize 4 (some .int) 1 none [.ref 218, .int (nI q)] h (fun v h' => v = some (.int (s_ts w q)) ∧ rA h0 h' s (L ++ l_ts (w (13 + 4 * q)))) := by
  have h7 := ok.2.2.2.1
  obtain ⟨a1, a2, -⟩ := ok.2.2.2.2.2 q hq
  refine jM.ofF (by decide +kernel) rfl (Nat.le_of_ble_eq_true rfl) (fun X hX hI => ?_)
  show jV cX7_tinSize RX7 1 X none 0 [some (.ref 218), some (.int (nI q)), none, none] [] h
  refine e_al0 dX7_tinSize_0 ?_
  refine e_il1 dX7_tinSize_1 ?_
  refine e_cv dX7_tinSize_2 vX7_240 (m_X7_kindIn t.1 (t.2.2.at (by omega) hW) (by omega)) (by decide) rfl rfl (Nat.le_of_ble_eq_true rfl) jBud0 rfl t.1 ?_
  rintro _ _ ⟨rfl, rfl⟩
  refine e_iconst (nI 5) dX7_tinSize_5 (by decide) ?_
  refine e_ic_neN 13 dX7_tinSize_6 (by decide) (by omega) (by omega) (fun c_6 => ?_) (fun c_6 => ?_)
  · refine e_iconst (nI 0) dX7_tinSize_13 (by decide) ?_
    refine e_is2 dX7_tinSize_14 rfl ?_
    refine e_il2 dX7_tinSize_15 ?_
    refine e_if_eqN 25 dX7_tinSize_16 (by decide) (by omega) (fun c_16 => ?_) (fun c_16 => ?_)
    · refine e_al0 dX7_tinSize_25 ?_
      refine e_bipush (nI 13) dX7_tinSize_26 (by decide) ?_
      refine e_cv dX7_tinSize_28 vX7_246 (m_X7_begins t (by (try simp only [List.length_append, List.length_cons, List.length_nil]); omega)) (by decide) rfl rfl (Nat.le_of_ble_eq_true rfl) jBud0 rfl t.1 ?_
      rintro _ h1 ⟨rfl, t⟩
      refine e_al0 dX7_tinSize_31 ?_
      refine e_bipush (nI 10) dX7_tinSize_32 (by decide) ?_
      refine e_cv dX7_tinSize_34 vX7_246 (m_X7_begins t (by (try simp only [List.length_append, List.length_cons, List.length_nil]); omega)) (by decide) rfl rfl (Nat.le_of_ble_eq_true rfl) jBud0 rfl t.1 ?_
      rintro _ h1 ⟨rfl, t⟩
      refine e_al0 dX7_tinSize_37 ?_
      refine e_get dX7_tinSize_38 fX7_25 t.1 rfl ?_
      refine e_bipush (nI 13) dX7_tinSize_41 (by decide) ?_
      refine e_iconst (nI 4) dX7_tinSize_43 (by decide) ?_
      refine e_il1 dX7_tinSize_44 ?_
      refine e_imulN dX7_tinSize_45 ?_
      refine e_iaddN dX7_tinSize_46 ?_
      refine e_iconst (nI 1) dX7_tinSize_47 (by decide) ?_
      refine e_iaddN dX7_tinSize_48 ?_
      refine e_ialdN dX7_tinSize_49 (t.2.2.at (by omega) hW) (by omega) (by decide) ?_
      refine e_bipush (nI 100) dX7_tinSize_50 (by decide) ?_
      refine e_isub dX7_tinSize_52 ?_
      refine e_is3 dX7_tinSize_53 rfl ?_
      refine e_il2 dX7_tinSize_54 ?_
      refine e_if_eqN 64 dX7_tinSize_55 (by decide) (by omega) (fun c_55 => ?_) (fun c_55 => ?_)
      · refine e_il3 dX7_tinSize_64 ?_
        exact e_iret hX dX7_tinSize_65 (⟨by rw [s_ts4 (by omega)], t.cg (by rw [l_ts, if_neg c_6]; simp only [List.append_assoc, List.cons_append, List.nil_append])⟩) (fun z => z)
      · exact absurd c_55 (by omega)
    · exact absurd c_16 (by omega)
  · refine e_iconst (nI 1) dX7_tinSize_9 (by decide) ?_
    refine e_goto 14 dX7_tinSize_10 (by decide) ?_
    refine e_is2 dX7_tinSize_14 rfl ?_
    refine e_il2 dX7_tinSize_15 ?_
    refine e_if_eqN 25 dX7_tinSize_16 (by decide) (by omega) (fun c_16 => ?_) (fun c_16 => ?_)
    · exact absurd c_16 (by omega)
    · refine e_al0 dX7_tinSize_19 ?_
      refine e_bipush (nI 14) dX7_tinSize_20 (by decide) ?_
      refine e_cv dX7_tinSize_22 vX7_246 (m_X7_begins t (by (try simp only [List.length_append, List.length_cons, List.length_nil]); omega)) (by decide) rfl rfl (Nat.le_of_ble_eq_true rfl) jBud0 rfl t.1 ?_
      rintro _ h1 ⟨rfl, t⟩
      refine e_al0 dX7_tinSize_25 ?_
      refine e_bipush (nI 13) dX7_tinSize_26 (by decide) ?_
      refine e_cv dX7_tinSize_28 vX7_246 (m_X7_begins t (by (try simp only [List.length_append, List.length_cons, List.length_nil]); omega)) (by decide) rfl rfl (Nat.le_of_ble_eq_true rfl) jBud0 rfl t.1 ?_
      rintro _ h1 ⟨rfl, t⟩
      refine e_al0 dX7_tinSize_31 ?_
      refine e_bipush (nI 10) dX7_tinSize_32 (by decide) ?_
      refine e_cv dX7_tinSize_34 vX7_246 (m_X7_begins t (by (try simp only [List.length_append, List.length_cons, List.length_nil]); omega)) (by decide) rfl rfl (Nat.le_of_ble_eq_true rfl) jBud0 rfl t.1 ?_
      rintro _ h1 ⟨rfl, t⟩
      refine e_al0 dX7_tinSize_37 ?_
      refine e_get dX7_tinSize_38 fX7_25 t.1 rfl ?_
      refine e_bipush (nI 13) dX7_tinSize_41 (by decide) ?_
      refine e_iconst (nI 4) dX7_tinSize_43 (by decide) ?_
      refine e_il1 dX7_tinSize_44 ?_
      refine e_imulN dX7_tinSize_45 ?_
      refine e_iaddN dX7_tinSize_46 ?_
      refine e_iconst (nI 1) dX7_tinSize_47 (by decide) ?_
      refine e_iaddN dX7_tinSize_48 ?_
      refine e_ialdN dX7_tinSize_49 (t.2.2.at (by omega) hW) (by omega) (by decide) ?_
      refine e_bipush (nI 100) dX7_tinSize_50 (by decide) ?_
      refine e_isub dX7_tinSize_52 ?_
      refine e_is3 dX7_tinSize_53 rfl ?_
      refine e_il2 dX7_tinSize_54 ?_
      refine e_if_eqN 64 dX7_tinSize_55 (by decide) (by omega) (fun c_55 => ?_) (fun c_55 => ?_)
      · exact absurd c_55 (by omega)
      · refine e_iconst (nI 2) dX7_tinSize_58 (by decide) ?_
        refine e_il3 dX7_tinSize_59 ?_
        refine e_imul dX7_tinSize_60 ?_
        refine e_goto 65 dX7_tinSize_61 (by decide) ?_
        exact e_iret hX dX7_tinSize_65 (⟨by rw [s_ts5 c_6], t.cg (by rw [l_ts, if_pos c_6]; simp only [List.append_assoc, List.cons_append, List.nil_append])⟩) (fun z => z)
set_option maxRecDepth 100000 in
set_option maxHeartbeats 4000000 in
theorem m_X7_leatherSize {h0 h : jH} {s : Nat → Int32} {L : List Nat} {w : hw} (hW : h0[224]? = some (jN 41 w)) (ok : g_ok w) {q : Nat} (hq : q < w 3) (t : rA h0 h s L) (hl : L.length + 6 ≤ 16) (hk4 : w (13 + 4 * q) < 4) : jM yX7_leatherSize cX7_leatherSize 4 (some .int) 2 none [.ref 218, .int (nI q)] h (fun v h' => v = some (.int (s_lz w q)) ∧ rA h0 h' s (L ++ l_lz (w (13 + 4 * q)))) := by
  have h7 := ok.2.2.2.1
  obtain ⟨a1, a2, -⟩ := ok.2.2.2.2.2 q hq
  refine jM.ofF (by decide +kernel) rfl (Nat.le_of_ble_eq_true rfl) (fun X hX hI => ?_)
  show jV cX7_leatherSize RX7 2 X none 0 [some (.ref 218), some (.int (nI q)), none, none] [] h
  refine e_al0 dX7_leatherSize_0 ?_
  refine e_il1 dX7_leatherSize_1 ?_
  refine e_cv dX7_leatherSize_2 vX7_240 (m_X7_kindIn t.1 (t.2.2.at (by omega) hW) (by omega)) (by decide) rfl rfl (Nat.le_of_ble_eq_true rfl) jBud0 rfl t.1 ?_
  rintro _ _ ⟨rfl, rfl⟩
  refine e_iconst (nI 2) dX7_leatherSize_5 (by decide) ?_
  refine e_ic_neN 13 dX7_leatherSize_6 (by decide) (by omega) (by omega) (fun c_6 => ?_) (fun c_6 => ?_)
  · refine e_iconst (nI 0) dX7_leatherSize_13 (by decide) ?_
    refine e_is2 dX7_leatherSize_14 rfl ?_
    refine e_il2 dX7_leatherSize_15 ?_
    refine e_if_eqN 25 dX7_leatherSize_16 (by decide) (by omega) (fun c_16 => ?_) (fun c_16 => ?_)
    · refine e_al0 dX7_leatherSize_25 ?_
      refine e_bipush (nI 11) dX7_leatherSize_26 (by decide) ?_
      refine e_cv dX7_leatherSize_28 vX7_246 (m_X7_begins t (by (try simp only [List.length_append, List.length_cons, List.length_nil]); omega)) (by decide) rfl rfl (Nat.le_of_ble_eq_true rfl) jBud0 rfl t.1 ?_
      rintro _ h1 ⟨rfl, t⟩
      refine e_al0 dX7_leatherSize_31 ?_
      refine e_bipush (nI 10) dX7_leatherSize_32 (by decide) ?_
      refine e_cv dX7_leatherSize_34 vX7_246 (m_X7_begins t (by (try simp only [List.length_append, List.length_cons, List.length_nil]); omega)) (by decide) rfl rfl (Nat.le_of_ble_eq_true rfl) jBud0 rfl t.1 ?_
      rintro _ h1 ⟨rfl, t⟩
      refine e_al0 dX7_leatherSize_37 ?_
      refine e_get dX7_leatherSize_38 fX7_25 t.1 rfl ?_
      refine e_bipush (nI 13) dX7_leatherSize_41 (by decide) ?_
      refine e_iconst (nI 4) dX7_leatherSize_43 (by decide) ?_
      refine e_il1 dX7_leatherSize_44 ?_
      refine e_imulN dX7_leatherSize_45 ?_
      refine e_iaddN dX7_leatherSize_46 ?_
      refine e_iconst (nI 1) dX7_leatherSize_47 (by decide) ?_
      refine e_iaddN dX7_leatherSize_48 ?_
      refine e_ialdN dX7_leatherSize_49 (t.2.2.at (by omega) hW) (by omega) (by decide) ?_
      refine e_al0 dX7_leatherSize_50 ?_
      refine e_il1 dX7_leatherSize_51 ?_
      refine e_cv dX7_leatherSize_52 vX7_249 (m_X7_leatherMark hW ok hq t (by (try simp only [List.length_append, List.length_cons, List.length_nil]); omega) hk4) (by decide) rfl rfl (Nat.le_of_ble_eq_true rfl) jBud0 rfl t.1 ?_
      rintro _ h2 ⟨rfl, t⟩
      refine e_iadd dX7_leatherSize_55 ?_
      refine e_is3 dX7_leatherSize_56 rfl ?_
      refine e_il2 dX7_leatherSize_57 ?_
      refine e_if_eqN 66 dX7_leatherSize_58 (by decide) (by omega) (fun c_58 => ?_) (fun c_58 => ?_)
      · refine e_il3 dX7_leatherSize_66 ?_
        exact e_iret hX dX7_leatherSize_67 (⟨by rw [s_lz, if_neg c_6], t.cg (by rw [l_lz, if_neg c_6]; simp only [List.append_assoc, List.cons_append, List.nil_append])⟩) (fun z => z)
      · exact absurd c_58 (by omega)
    · exact absurd c_16 (by omega)
  · refine e_iconst (nI 1) dX7_leatherSize_9 (by decide) ?_
    refine e_goto 14 dX7_leatherSize_10 (by decide) ?_
    refine e_is2 dX7_leatherSize_14 rfl ?_
    refine e_il2 dX7_leatherSize_15 ?_
    refine e_if_eqN 25 dX7_leatherSize_16 (by decide) (by omega) (fun c_16 => ?_) (fun c_16 => ?_)
    · exact absurd c_16 (by omega)
    · refine e_al0 dX7_leatherSize_19 ?_
      refine e_bipush (nI 12) dX7_leatherSize_20 (by decide) ?_
      refine e_cv dX7_leatherSize_22 vX7_246 (m_X7_begins t (by (try simp only [List.length_append, List.length_cons, List.length_nil]); omega)) (by decide) rfl rfl (Nat.le_of_ble_eq_true rfl) jBud0 rfl t.1 ?_
      rintro _ h1 ⟨rfl, t⟩
      refine e_al0 dX7_leatherSize_25 ?_
      refine e_bipush (nI 11) dX7_leatherSize_26 (by decide) ?_
      refine e_cv dX7_leatherSize_28 vX7_246 (m_X7_begins t (by (try simp only [List.length_append, List.length_cons, List.length_nil]); omega)) (by decide) rfl rfl (Nat.le_of_ble_eq_true rfl) jBud0 rfl t.1 ?_
      rintro _ h1 ⟨rfl, t⟩
      refine e_al0 dX7_leatherSize_31 ?_
      refine e_bipush (nI 10) dX7_leatherSize_32 (by decide) ?_
      refine e_cv dX7_leatherSize_34 vX7_246 (m_X7_begins t (by (try simp only [List.length_append, List.length_cons, List.length_nil]); omega)) (by decide) rfl rfl (Nat.le_of_ble_eq_true rfl) jBud0 rfl t.1 ?_
      rintro _ h1 ⟨rfl, t⟩
      refine e_al0 dX7_leatherSize_37 ?_
      refine e_get dX7_leatherSize_38 fX7_25 t.1 rfl ?_
      refine e_bipush (nI 13) dX7_leatherSize_41 (by decide) ?_
      refine e_iconst (nI 4) dX7_leatherSize_43 (by decide) ?_
      refine e_il1 dX7_leatherSize_44 ?_
      refine e_imulN dX7_leatherSize_45 ?_
      refine e_iaddN dX7_leatherSize_46 ?_
      refine e_iconst (nI 1) dX7_leatherSize_47 (by decide) ?_
      refine e_iaddN dX7_leatherSize_48 ?_
      refine e_ialdN dX7_leatherSize_49 (t.2.2.at (by omega) hW) (by omega) (by decide) ?_
      refine e_al0 dX7_leatherSize_50 ?_
      refine e_il1 dX7_leatherSize_51 ?_
      refine e_cv dX7_leatherSize_52 vX7_249 (m_X7_leatherMark hW ok hq t (by (try simp only [List.length_append, List.length_cons, List.length_nil]); omega) hk4) (by decide) rfl rfl (Nat.le_of_ble_eq_true rfl) jBud0 rfl t.1 ?_
      rintro _ h2 ⟨rfl, t⟩
      refine e_iadd dX7_leatherSize_55 ?_
      refine e_is3 dX7_leatherSize_56 rfl ?_
      refine e_il2 dX7_leatherSize_57 ?_
      refine e_if_eqN 66 dX7_leatherSize_58 (by decide) (by omega) (fun c_58 => ?_) (fun c_58 => ?_)
      · exact absurd c_58 (by omega)
      · refine e_il3 dX7_leatherSize_61 ?_
        refine e_ineg dX7_leatherSize_62 ?_
        refine e_goto 67 dX7_leatherSize_63 (by decide) ?_
        exact e_iret hX dX7_leatherSize_67 (⟨by rw [s_lz, if_pos c_6], t.cg (by rw [l_lz, if_pos c_6]; simp only [List.append_assoc, List.cons_append, List.nil_append])⟩) (fun z => z)
set_option maxRecDepth 100000 in
set_option maxHeartbeats 4000000 in
theorem m_X7_tinMark {h0 h : jH} {s : Nat → Int32} {L : List Nat} {w : hw} (hW : h0[224]? = some (jN 41 w)) (ok : g_ok w) {q : Nat} (hq : q < w 3) (t : rA h0 h s L) (hl : L.length + 6 ≤ 16) (hk4 : 4 ≤ w (13 + 4 * q)) : jM yX7_tinMark cX7_tinMark 2 (some .int) 2 none [.ref 218, .int (nI q)] h (fun v h' => v = some (.int (nI q - s_ts w q)) ∧ rA h0 h' s (L ++ 23 :: 20 :: l_ts (w (13 + 4 * q)))) := by
  have h7 := ok.2.2.2.1
  obtain ⟨a1, a2, -⟩ := ok.2.2.2.2.2 q hq
  refine jM.ofF (by decide +kernel) rfl (Nat.le_of_ble_eq_true rfl) (fun X hX hI => ?_)
  show jV cX7_tinMark RX7 2 X none 0 [some (.ref 218), some (.int (nI q))] [] h
  refine e_al0 dX7_tinMark_0 ?_
  refine e_bipush (nI 23) dX7_tinMark_1 (by decide) ?_
  refine e_cv dX7_tinMark_3 vX7_246 (m_X7_begins t (by (try simp only [List.length_append, List.length_cons, List.length_nil]); omega)) (by decide) rfl rfl (Nat.le_of_ble_eq_true rfl) jBud0 rfl t.1 ?_
  rintro _ h1 ⟨rfl, t⟩
  refine e_al0 dX7_tinMark_6 ?_
  refine e_bipush (nI 20) dX7_tinMark_7 (by decide) ?_
  refine e_cv dX7_tinMark_9 vX7_246 (m_X7_begins t (by (try simp only [List.length_append, List.length_cons, List.length_nil]); omega)) (by decide) rfl rfl (Nat.le_of_ble_eq_true rfl) jBud0 rfl t.1 ?_
  rintro _ h1 ⟨rfl, t⟩
  refine e_il1 dX7_tinMark_12 ?_
  refine e_al0 dX7_tinMark_13 ?_
  refine e_il1 dX7_tinMark_14 ?_
  refine e_cv dX7_tinMark_15 vX7_252 (m_X7_tinSize hW ok hq t (by (try simp only [List.length_append, List.length_cons, List.length_nil]); omega) hk4) (by decide) rfl rfl (Nat.le_of_ble_eq_true rfl) jBud0 rfl t.1 ?_
  rintro _ h2 ⟨rfl, t⟩
  refine e_isub dX7_tinMark_18 ?_
  exact e_iret hX dX7_tinMark_19 (⟨rfl, t.cg (by simp only [List.append_assoc, List.cons_append, List.nil_append])⟩) (fun z => z)
set_option maxRecDepth 100000 in
set_option maxHeartbeats 4000000 in
theorem r_ask {h : jH} {S : jS} (c : RI h S) (g : SG S) {x v : Int32} : jM yX7_ask cX7_ask 4 (some .int) 3 none [.ref 218, .int x, .int v] h (rAns h (sp_ask x v S)) := by
  obtain ⟨⟨s, hO, s0, s1, s2, s8, s9⟩, c2, c3, hW, c5, c6, c7, c8⟩ := id c
  obtain ⟨g0, g1, g2, ⟨ok, gd, gh⟩, ⟨ga, gp⟩, gi, gt⟩ := id g
  obtain ⟨k0, k1, k2, k3, k4, k5⟩ := id ok
  obtain ⟨B, hB, hb⟩ := id c3
  obtain ⟨Pa, hP, hPa⟩ := id c5
  obtain ⟨Im, Kk, hI1, hI2, hI3, hI4⟩ := id c6
  obtain ⟨⟨x1, hx1⟩, ⟨x2, hx2⟩, ⟨x3, hx3⟩, ⟨x4, hx4⟩, ⟨x5, hx5⟩, x6, hx6⟩ := id c7
  obtain ⟨tf, ht1, ht2⟩ := id c8
  have t0 : rTr h h s S.2.2.1 x2 := ⟨hO, hW, hx2, ⟨x3, hx3⟩, ⟨x4, hx4⟩, jEq.rf⟩
  refine jM.ofF (by decide +kernel) rfl (Nat.le_of_ble_eq_true rfl) (fun X hX hI => ?_)
  show jV cX7_ask RX7 3 X none 0 [some (.ref 218), some (.int x), some (.int v), none] [] h
  refine e_al0 dX7_ask_0 ?_
  refine e_il1 dX7_ask_1 ?_
  refine e_cv dX7_ask_2 vX7_195 (m_X7_isPair hO hW (by omega)) (by decide) rfl rfl (Nat.le_of_ble_eq_true rfl) jBud0 rfl hO ?_
  rintro _ _ ⟨rfl, rfl⟩
  refine e_if_eqB 17 dX7_ask_5 (by decide) (fun c_5 => ?_) (fun c_5 => ?_)
  · refine e_ldc dX7_ask_17 kX7_73 ?_
    exact e_iret hX dX7_ask_19 (by rw [sp_ask, if_neg c_5]; exact rAns.same c rfl) (fun z => z)
  · refine e_il2 dX7_ask_8 ?_
    refine e_iconst (nI 0) dX7_ask_9 (by decide) ?_
    refine e_iconst (nI 1) dX7_ask_10 (by decide) ?_
    refine e_cs dX7_ask_11 sX7_65 (m_X7_inR (by decide) (by decide)) (by decide) rfl rfl (Nat.le_of_ble_eq_true rfl) jBud0 ?_
    rintro _ _ ⟨rfl, rfl⟩
    refine e_if_neB 20 dX7_ask_14 (by decide) (fun c_14 => ?_) (fun c_14 => ?_)
    · obtain ⟨a, ha, rfl⟩ := iN_of c_5 (by omega)
      have ea : (nI a).toNatClampNeg = a := nI_clamp (by omega)
      obtain ⟨v, lv, hv, rfl⟩ := iR_of c_14 (by decide)
      have ev : (nI v).toNatClampNeg = v := nI_clamp (by omega)
      have k5a := k5 a ha
      refine e_al0 dX7_ask_20 ?_
      refine e_iconst (nI 0) dX7_ask_21 (by decide) ?_
      refine e_put dX7_ask_22 fX7_243 hO (Nat.le_of_ble_eq_true rfl) (fun g => ⟨rfl, rfl⟩) ?_
      refine e_abs (fun h1 hh => ?_)
      have t : rA h h1 s [] := ⟨jhs_at hh hO, ⟨_, jhs hh ht1 (by omega), fun i hi => absurd hi (by simp)⟩, jEq.hs hh jEq.rf (Or.inl rfl)⟩
      clear hh
      refine e_al0 dX7_ask_25 ?_
      refine e_il1 dX7_ask_26 ?_
      refine e_cv dX7_ask_27 vX7_240 (m_X7_kindIn t.1 (t.2.2.at (by omega) hW) (by omega)) (by decide) rfl rfl (Nat.le_of_ble_eq_true rfl) jBud0 rfl t.1 ?_
      rintro _ _ ⟨rfl, rfl⟩
      refine e_iconst (nI 4) dX7_ask_30 (by decide) ?_
      refine e_ic_ltN 38 dX7_ask_31 (by decide) (by omega) (by omega) (fun c_31 => ?_) (fun c_31 => ?_)
      · refine e_iconst (nI 0) dX7_ask_38 (by decide) ?_
        refine e_is3 dX7_ask_39 rfl ?_
        refine e_il2 dX7_ask_40 ?_
        refine e_if_neN 62 dX7_ask_41 (by decide) (by omega) (fun c_41 => ?_) (fun c_41 => ?_)
        · refine e_il3 dX7_ask_62 ?_
          refine e_if_eqN 74 dX7_ask_63 (by decide) (by omega) (fun c_63 => ?_) (fun c_63 => ?_)
          · refine e_al0 dX7_ask_74 ?_
            refine e_il1 dX7_ask_75 ?_
            refine e_cv dX7_ask_76 vX7_249 (m_X7_leatherMark hW ok ha t (by decide) c_31) (by decide) rfl rfl (Nat.le_of_ble_eq_true rfl) jBud0 rfl t.1 ?_
            rintro _ h2 ⟨rfl, t⟩
            exact e_iret hX dX7_ask_79 (by
              rw [sp_ask, if_pos c_5, if_pos c_14, ea, ev, s_askV, s_askL, if_neg (by omega), if_neg (by omega), if_neg (by omega), if_neg (by omega)]
              exact ⟨rfl, c.ra ⟨s0, s1, s2, s8⟩ t, t.hi⟩) (fun z => z)
          · exact absurd c_63 (by omega)
        · refine e_il3 dX7_ask_44 ?_
          refine e_if_eqN 56 dX7_ask_45 (by decide) (by omega) (fun c_45 => ?_) (fun c_45 => ?_)
          · refine e_al0 dX7_ask_56 ?_
            refine e_il1 dX7_ask_57 ?_
            refine e_cv dX7_ask_58 vX7_255 (m_X7_leatherSize hW ok ha t (by decide) c_31) (by decide) rfl rfl (Nat.le_of_ble_eq_true rfl) jBud0 rfl t.1 ?_
            rintro _ h2 ⟨rfl, t⟩
            exact e_iret hX dX7_ask_61 (by
              rw [sp_ask, if_pos c_5, if_pos c_14, ea, ev, s_askV, s_askL, if_pos c_41, if_neg (by omega), if_pos c_41, if_neg (by omega)]
              exact ⟨rfl, c.ra ⟨s0, s1, s2, s8⟩ t, t.hi⟩) (fun z => z)
          · exact absurd c_45 (by omega)
      · refine e_iconst (nI 1) dX7_ask_34 (by decide) ?_
        refine e_goto 39 dX7_ask_35 (by decide) ?_
        refine e_is3 dX7_ask_39 rfl ?_
        refine e_il2 dX7_ask_40 ?_
        refine e_if_neN 62 dX7_ask_41 (by decide) (by omega) (fun c_41 => ?_) (fun c_41 => ?_)
        · refine e_il3 dX7_ask_62 ?_
          refine e_if_eqN 74 dX7_ask_63 (by decide) (by omega) (fun c_63 => ?_) (fun c_63 => ?_)
          · exact absurd c_63 (by omega)
          · refine e_al0 dX7_ask_66 ?_
            refine e_il1 dX7_ask_67 ?_
            refine e_cv dX7_ask_68 vX7_258 (m_X7_tinMark hW ok ha t (by decide) c_31) (by decide) rfl rfl (Nat.le_of_ble_eq_true rfl) jBud0 rfl t.1 ?_
            rintro _ h2 ⟨rfl, t⟩
            refine e_goto 79 dX7_ask_71 (by decide) ?_
            exact e_iret hX dX7_ask_79 (by
              rw [sp_ask, if_pos c_5, if_pos c_14, ea, ev, s_askV, s_askL, if_neg (by omega), if_pos c_31, if_neg (by omega), if_pos c_31]
              exact ⟨rfl, c.ra ⟨s0, s1, s2, s8⟩ t, t.hi⟩) (fun z => z)
        · refine e_il3 dX7_ask_44 ?_
          refine e_if_eqN 56 dX7_ask_45 (by decide) (by omega) (fun c_45 => ?_) (fun c_45 => ?_)
          · exact absurd c_45 (by omega)
          · refine e_al0 dX7_ask_48 ?_
            refine e_il1 dX7_ask_49 ?_
            refine e_cv dX7_ask_50 vX7_252 (m_X7_tinSize hW ok ha t (by decide) c_31) (by decide) rfl rfl (Nat.le_of_ble_eq_true rfl) jBud0 rfl t.1 ?_
            rintro _ h2 ⟨rfl, t⟩
            refine e_goto 61 dX7_ask_53 (by decide) ?_
            exact e_iret hX dX7_ask_61 (by
              rw [sp_ask, if_pos c_5, if_pos c_14, ea, ev, s_askV, s_askL, if_pos c_41, if_pos c_31, if_pos c_41, if_pos c_31]
              exact ⟨rfl, c.ra ⟨s0, s1, s2, s8⟩ t, t.hi⟩) (fun z => z)
    · refine e_ldc dX7_ask_17 kX7_73 ?_
      exact e_iret hX dX7_ask_19 (by rw [sp_ask, if_pos c_5, if_neg c_14]; exact rAns.same c rfl) (fun z => z)
set_option maxRecDepth 100000 in
set_option maxHeartbeats 4000000 in
theorem r_as {h : jH} {S : jS} (c : RI h S) (g : SG S) {x v : Int32} : jM yX7_as cX7_as 5 (some .int) 2 none [.ref 218, .int x, .int v] h (rAns h (sp_as x v S)) := by
  obtain ⟨⟨s, hO, s0, s1, s2, s8, s9⟩, c2, c3, hW, c5, c6, c7, c8⟩ := id c
  obtain ⟨g0, g1, g2, ⟨ok, gd, gh⟩, ⟨ga, gp⟩, gi, gt⟩ := id g
  obtain ⟨k0, k1, k2, k3, k4, k5⟩ := id ok
  obtain ⟨B, hB, hb⟩ := id c3
  obtain ⟨Pa, hP, hPa⟩ := id c5
  obtain ⟨Im, Kk, hI1, hI2, hI3, hI4⟩ := id c6
  obtain ⟨⟨x1, hx1⟩, ⟨x2, hx2⟩, ⟨x3, hx3⟩, ⟨x4, hx4⟩, ⟨x5, hx5⟩, x6, hx6⟩ := id c7
  obtain ⟨tf, ht1, ht2⟩ := id c8
  have t0 : rTr h h s S.2.2.1 x2 := ⟨hO, hW, hx2, ⟨x3, hx3⟩, ⟨x4, hx4⟩, jEq.rf⟩
  refine jM.ofF (by decide +kernel) rfl (Nat.le_of_ble_eq_true rfl) (fun X hX hI => ?_)
  show jV cX7_as RX7 2 X none 0 [some (.ref 218), some (.int x), some (.int v), none, none] [] h
  refine e_al0 dX7_as_0 ?_
  refine e_il1 dX7_as_1 ?_
  refine e_cv dX7_as_2 vX7_195 (m_X7_isPair hO hW (by omega)) (by decide) rfl rfl (Nat.le_of_ble_eq_true rfl) jBud0 rfl hO ?_
  rintro _ _ ⟨rfl, rfl⟩
  refine e_if_eqB 17 dX7_as_5 (by decide) (fun c_5 => ?_) (fun c_5 => ?_)
  · refine e_ldc dX7_as_17 kX7_73 ?_
    exact e_iret hX dX7_as_19 (by rw [sp_as, if_neg c_5]; exact rAns.same c rfl) (fun z => z)
  · refine e_il2 dX7_as_8 ?_
    refine e_iconst (nI 0) dX7_as_9 (by decide) ?_
    refine e_iconst (nI 5) dX7_as_10 (by decide) ?_
    refine e_cs dX7_as_11 sX7_65 (m_X7_inR (by decide) (by decide)) (by decide) rfl rfl (Nat.le_of_ble_eq_true rfl) jBud0 ?_
    rintro _ _ ⟨rfl, rfl⟩
    refine e_if_neB 20 dX7_as_14 (by decide) (fun c_14 => ?_) (fun c_14 => ?_)
    · obtain ⟨a, ha, rfl⟩ := iN_of c_5 (by omega)
      have ea : (nI a).toNatClampNeg = a := nI_clamp (by omega)
      obtain ⟨v, lv, hv, rfl⟩ := iR_of c_14 (by decide)
      have ev : (nI v).toNatClampNeg = v := nI_clamp (by omega)
      have k5a := k5 a ha
      have hii := s_isa_iff (a := v) k5a.1 k5a.2.1
      refine e_al0 dX7_as_20 ?_
      refine e_il1 dX7_as_21 ?_
      refine e_cv dX7_as_22 vX7_240 (m_X7_kindIn hO hW (by omega)) (by decide) rfl rfl (Nat.le_of_ble_eq_true rfl) jBud0 rfl hO ?_
      rintro _ _ ⟨rfl, rfl⟩
      refine e_is3 dX7_as_25 rfl ?_
      refine e_il2 dX7_as_26 ?_
      refine e_if_eqN 55 dX7_as_27 (by decide) (by omega) (fun c_27 => ?_) (fun c_27 => ?_)
      · refine e_iconst (nI 1) dX7_as_55 (by decide) ?_
        refine e_goto 60 dX7_as_56 (by decide) ?_
        refine e_is4 dX7_as_60 rfl ?_
        refine e_il4 dX7_as_62 ?_
        refine e_if_eqN 75 dX7_as_64 (by decide) (by omega) (fun c_64 => ?_) (fun c_64 => ?_)
        · exact absurd c_64 (by omega)
        · refine e_al0 dX7_as_67 ?_
          refine e_il1 dX7_as_68 ?_
          refine e_cv dX7_as_69 vX7_78 (m_X7_well hO) (by decide) rfl rfl (Nat.le_of_ble_eq_true rfl) jBud0 rfl hO ?_
          rintro _ h1 ⟨rfl, t1, E1⟩
          refine e_goto 80 dX7_as_72 (by decide) ?_
          exact e_iret hX dX7_as_80 (by rw [sp_as, if_pos c_5, if_pos c_14, ea, ev, if_pos (hii.mpr (by omega))]; exact ⟨rfl, c.st ⟨s1, s2, s8, s9⟩ t1 E1, E1.mono (fun j q => by unfold jHi; omega)⟩) (fun z => z)
      · refine e_il2 dX7_as_30 ?_
        refine e_il3 dX7_as_31 ?_
        refine e_ic_eqN 55 dX7_as_32 (by decide) (by omega) (by omega) (fun c_32 => ?_) (fun c_32 => ?_)
        · refine e_iconst (nI 1) dX7_as_55 (by decide) ?_
          refine e_goto 60 dX7_as_56 (by decide) ?_
          refine e_is4 dX7_as_60 rfl ?_
          refine e_il4 dX7_as_62 ?_
          refine e_if_eqN 75 dX7_as_64 (by decide) (by omega) (fun c_64 => ?_) (fun c_64 => ?_)
          · exact absurd c_64 (by omega)
          · refine e_al0 dX7_as_67 ?_
            refine e_il1 dX7_as_68 ?_
            refine e_cv dX7_as_69 vX7_78 (m_X7_well hO) (by decide) rfl rfl (Nat.le_of_ble_eq_true rfl) jBud0 rfl hO ?_
            rintro _ h1 ⟨rfl, t1, E1⟩
            refine e_goto 80 dX7_as_72 (by decide) ?_
            exact e_iret hX dX7_as_80 (by rw [sp_as, if_pos c_5, if_pos c_14, ea, ev, if_pos (hii.mpr (by omega))]; exact ⟨rfl, c.st ⟨s1, s2, s8, s9⟩ t1 E1, E1.mono (fun j q => by unfold jHi; omega)⟩) (fun z => z)
        · refine e_il2 dX7_as_35 ?_
          refine e_iconst (nI 1) dX7_as_36 (by decide) ?_
          refine e_ic_neN 45 dX7_as_37 (by decide) (by omega) (by omega) (fun c_37 => ?_) (fun c_37 => ?_)
          · refine e_il2 dX7_as_45 ?_
            refine e_iconst (nI 4) dX7_as_46 (by decide) ?_
            refine e_ic_neN 59 dX7_as_47 (by decide) (by omega) (by omega) (fun c_47 => ?_) (fun c_47 => ?_)
            · refine e_iconst (nI 0) dX7_as_59 (by decide) ?_
              refine e_is4 dX7_as_60 rfl ?_
              refine e_il4 dX7_as_62 ?_
              refine e_if_eqN 75 dX7_as_64 (by decide) (by omega) (fun c_64 => ?_) (fun c_64 => ?_)
              · refine e_al0 dX7_as_75 ?_
                refine e_iconst (nI 3) dX7_as_76 (by decide) ?_
                refine e_cv dX7_as_77 vX7_74 (m_X7_found hO) (by decide) rfl rfl (Nat.le_of_ble_eq_true rfl) jBud0 rfl hO ?_
                rintro _ h1 ⟨rfl, t1, E1⟩
                exact e_iret hX dX7_as_80 (by rw [sp_as, if_pos c_5, if_pos c_14, ea, ev, if_neg (fun z => absurd (hii.mp z) (by omega))]; exact ⟨rfl, c.st ⟨s1, s2, s8, s9⟩ t1 E1, E1.mono (fun j q => by unfold jHi; omega)⟩) (fun z => z)
              · exact absurd c_64 (by omega)
            · refine e_il3 dX7_as_50 ?_
              refine e_iconst (nI 5) dX7_as_51 (by decide) ?_
              refine e_ic_neN 59 dX7_as_52 (by decide) (by omega) (by omega) (fun c_52 => ?_) (fun c_52 => ?_)
              · refine e_iconst (nI 0) dX7_as_59 (by decide) ?_
                refine e_is4 dX7_as_60 rfl ?_
                refine e_il4 dX7_as_62 ?_
                refine e_if_eqN 75 dX7_as_64 (by decide) (by omega) (fun c_64 => ?_) (fun c_64 => ?_)
                · refine e_al0 dX7_as_75 ?_
                  refine e_iconst (nI 3) dX7_as_76 (by decide) ?_
                  refine e_cv dX7_as_77 vX7_74 (m_X7_found hO) (by decide) rfl rfl (Nat.le_of_ble_eq_true rfl) jBud0 rfl hO ?_
                  rintro _ h1 ⟨rfl, t1, E1⟩
                  exact e_iret hX dX7_as_80 (by rw [sp_as, if_pos c_5, if_pos c_14, ea, ev, if_neg (fun z => absurd (hii.mp z) (by omega))]; exact ⟨rfl, c.st ⟨s1, s2, s8, s9⟩ t1 E1, E1.mono (fun j q => by unfold jHi; omega)⟩) (fun z => z)
                · exact absurd c_64 (by omega)
              · refine e_iconst (nI 1) dX7_as_55 (by decide) ?_
                refine e_goto 60 dX7_as_56 (by decide) ?_
                refine e_is4 dX7_as_60 rfl ?_
                refine e_il4 dX7_as_62 ?_
                refine e_if_eqN 75 dX7_as_64 (by decide) (by omega) (fun c_64 => ?_) (fun c_64 => ?_)
                · exact absurd c_64 (by omega)
                · refine e_al0 dX7_as_67 ?_
                  refine e_il1 dX7_as_68 ?_
                  refine e_cv dX7_as_69 vX7_78 (m_X7_well hO) (by decide) rfl rfl (Nat.le_of_ble_eq_true rfl) jBud0 rfl hO ?_
                  rintro _ h1 ⟨rfl, t1, E1⟩
                  refine e_goto 80 dX7_as_72 (by decide) ?_
                  exact e_iret hX dX7_as_80 (by rw [sp_as, if_pos c_5, if_pos c_14, ea, ev, if_pos (hii.mpr (by omega))]; exact ⟨rfl, c.st ⟨s1, s2, s8, s9⟩ t1 E1, E1.mono (fun j q => by unfold jHi; omega)⟩) (fun z => z)
          · refine e_il3 dX7_as_40 ?_
            refine e_iconst (nI 4) dX7_as_41 (by decide) ?_
            refine e_ic_ltN 55 dX7_as_42 (by decide) (by omega) (by omega) (fun c_42 => ?_) (fun c_42 => ?_)
            · refine e_iconst (nI 1) dX7_as_55 (by decide) ?_
              refine e_goto 60 dX7_as_56 (by decide) ?_
              refine e_is4 dX7_as_60 rfl ?_
              refine e_il4 dX7_as_62 ?_
              refine e_if_eqN 75 dX7_as_64 (by decide) (by omega) (fun c_64 => ?_) (fun c_64 => ?_)
              · exact absurd c_64 (by omega)
              · refine e_al0 dX7_as_67 ?_
                refine e_il1 dX7_as_68 ?_
                refine e_cv dX7_as_69 vX7_78 (m_X7_well hO) (by decide) rfl rfl (Nat.le_of_ble_eq_true rfl) jBud0 rfl hO ?_
                rintro _ h1 ⟨rfl, t1, E1⟩
                refine e_goto 80 dX7_as_72 (by decide) ?_
                exact e_iret hX dX7_as_80 (by rw [sp_as, if_pos c_5, if_pos c_14, ea, ev, if_pos (hii.mpr (by omega))]; exact ⟨rfl, c.st ⟨s1, s2, s8, s9⟩ t1 E1, E1.mono (fun j q => by unfold jHi; omega)⟩) (fun z => z)
            · refine e_il2 dX7_as_45 ?_
              refine e_iconst (nI 4) dX7_as_46 (by decide) ?_
              refine e_ic_neN 59 dX7_as_47 (by decide) (by omega) (by omega) (fun c_47 => ?_) (fun c_47 => ?_)
              · refine e_iconst (nI 0) dX7_as_59 (by decide) ?_
                refine e_is4 dX7_as_60 rfl ?_
                refine e_il4 dX7_as_62 ?_
                refine e_if_eqN 75 dX7_as_64 (by decide) (by omega) (fun c_64 => ?_) (fun c_64 => ?_)
                · refine e_al0 dX7_as_75 ?_
                  refine e_iconst (nI 3) dX7_as_76 (by decide) ?_
                  refine e_cv dX7_as_77 vX7_74 (m_X7_found hO) (by decide) rfl rfl (Nat.le_of_ble_eq_true rfl) jBud0 rfl hO ?_
                  rintro _ h1 ⟨rfl, t1, E1⟩
                  exact e_iret hX dX7_as_80 (by rw [sp_as, if_pos c_5, if_pos c_14, ea, ev, if_neg (fun z => absurd (hii.mp z) (by omega))]; exact ⟨rfl, c.st ⟨s1, s2, s8, s9⟩ t1 E1, E1.mono (fun j q => by unfold jHi; omega)⟩) (fun z => z)
                · exact absurd c_64 (by omega)
              · refine e_il3 dX7_as_50 ?_
                refine e_iconst (nI 5) dX7_as_51 (by decide) ?_
                refine e_ic_neN 59 dX7_as_52 (by decide) (by omega) (by omega) (fun c_52 => ?_) (fun c_52 => ?_)
                · refine e_iconst (nI 0) dX7_as_59 (by decide) ?_
                  refine e_is4 dX7_as_60 rfl ?_
                  refine e_il4 dX7_as_62 ?_
                  refine e_if_eqN 75 dX7_as_64 (by decide) (by omega) (fun c_64 => ?_) (fun c_64 => ?_)
                  · refine e_al0 dX7_as_75 ?_
                    refine e_iconst (nI 3) dX7_as_76 (by decide) ?_
                    refine e_cv dX7_as_77 vX7_74 (m_X7_found hO) (by decide) rfl rfl (Nat.le_of_ble_eq_true rfl) jBud0 rfl hO ?_
                    rintro _ h1 ⟨rfl, t1, E1⟩
                    exact e_iret hX dX7_as_80 (by rw [sp_as, if_pos c_5, if_pos c_14, ea, ev, if_neg (fun z => absurd (hii.mp z) (by omega))]; exact ⟨rfl, c.st ⟨s1, s2, s8, s9⟩ t1 E1, E1.mono (fun j q => by unfold jHi; omega)⟩) (fun z => z)
                  · exact absurd c_64 (by omega)
                · refine e_iconst (nI 1) dX7_as_55 (by decide) ?_
                  refine e_goto 60 dX7_as_56 (by decide) ?_
                  refine e_is4 dX7_as_60 rfl ?_
                  refine e_il4 dX7_as_62 ?_
                  refine e_if_eqN 75 dX7_as_64 (by decide) (by omega) (fun c_64 => ?_) (fun c_64 => ?_)
                  · exact absurd c_64 (by omega)
                  · refine e_al0 dX7_as_67 ?_
                    refine e_il1 dX7_as_68 ?_
                    refine e_cv dX7_as_69 vX7_78 (m_X7_well hO) (by decide) rfl rfl (Nat.le_of_ble_eq_true rfl) jBud0 rfl hO ?_
                    rintro _ h1 ⟨rfl, t1, E1⟩
                    refine e_goto 80 dX7_as_72 (by decide) ?_
                    exact e_iret hX dX7_as_80 (by rw [sp_as, if_pos c_5, if_pos c_14, ea, ev, if_pos (hii.mpr (by omega))]; exact ⟨rfl, c.st ⟨s1, s2, s8, s9⟩ t1 E1, E1.mono (fun j q => by unfold jHi; omega)⟩) (fun z => z)
    · refine e_ldc dX7_as_17 kX7_73 ?_
      exact e_iret hX dX7_as_19 (by rw [sp_as, if_pos c_5, if_neg c_14]; exact rAns.same c rfl) (fun z => z)
