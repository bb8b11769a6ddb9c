/-! every call keeps the bounds -/
theorem sg_st {S : jS} {x : Nat} (g : SG S) (hx : x ≤ 5) : SG (z_st S x) := ⟨hx, g.2⟩
theorem sg_now {S : jS} {w : hw} {an : Nat} {ap : Nat → hw} (g : SG S) (ok : g_ok w) (hd : w 4 ≤ 9999) (hh : 0 < w 2 ↔ 0 < w 1) (ha : an ≤ 24) (hp : ∀ j, j < an → g_ok (ap j) ∧ ap j 4 ≤ 9999 ∧ (0 < ap j 2 ↔ 0 < ap j 1)) : SG (z_now S w an ap) := ⟨g.1, g.2.1, g.2.2.1, ⟨ok, hd, hh⟩, ⟨ha, hp⟩, g.2.2.2.2.2.1, g.2.2.2.2.2.2⟩
theorem cl_le {x : Int32} {a b : Nat} (h : iR x a b) (hb : b < 2 ^ 30) : x.toNatClampNeg ≤ b := by
  obtain ⟨j, -, hj, rfl⟩ := iR_of h hb
  rw [nI_clamp (by omega)]
  exact hj
theorem cl_lt {x : Int32} {n : Nat} (h : iN x n) (hn : n < 2 ^ 30) : x.toNatClampNeg < n := by
  obtain ⟨j, hj, rfl⟩ := iN_of h (by omega)
  rw [nI_clamp (by omega)]
  exact hj
theorem sg_row {S : jS} {r l n : Int32} (g : SG S) : SG (sp_row r l n S).2 := by
  unfold sp_row
  by_cases d0 : iR r 0 7
  · rw [if_pos d0]
    by_cases d1 : iR l 0 2
    · rw [if_pos d1]
      by_cases d2 : n.toInt ≤ 40
      · rw [if_pos d2]
        by_cases d3 : 0 ≤ n.toInt
        · rw [if_pos d3]
          have l2 := cl_le d1 (by omega)
          obtain ⟨m, hm, rfl⟩ := n_nat (m := 40) d3 d2 (by decide)
          have em : (nI m).toNatClampNeg = m := nI_clamp (by omega)
          refine ⟨Nat.zero_le _, fun q hq => ?_, g.2.2⟩
          have gq := g.2.1 q hq
          show va_up _ _ _ q ≤ 3 ∧ va_up _ _ _ q ≤ 40
          rw [em]
          unfold va_up
          constructor
          · split <;> omega
          · split <;> omega
        · rw [if_neg d3]; exact sg_st g (by omega)
      · rw [if_neg d2]; exact g
    · rw [if_neg d1]; exact g
  · rw [if_neg d0]; exact g
theorem sg_set {S : jS} {r i v : Int32} (g : SG S) : SG (sp_set r i v S).2 := by
  unfold sp_set
  by_cases d0 : iR r 0 7
  · rw [if_pos d0]
    by_cases d1 : S.1.2.1 r.toNatClampNeg = 3
    · rw [if_pos d1]; exact sg_st g (by omega)
    · rw [if_neg d1]
      by_cases d2 : iN i (S.1.2.2.1 r.toNatClampNeg)
      · rw [if_pos d2]
        exact ⟨Nat.zero_le _, g.2⟩
      · rw [if_neg d2]; exact sg_st g (by omega)
  · rw [if_neg d0]; exact g
theorem sg_copy {S : jS} {a i b j n : Int32} (g : SG S) : SG (sp_copy a i b j n S).2 := by
  unfold sp_copy
  by_cases d0 : iR a 0 7
  · rw [if_pos d0]
    by_cases d1 : iR b 0 7
    · rw [if_pos d1]
      by_cases d2 : S.1.2.1 a.toNatClampNeg = 3
      · rw [if_pos d2]; exact sg_st g (by omega)
      · rw [if_neg d2]
        by_cases d3 : S.1.2.1 b.toNatClampNeg = 3
        · rw [if_pos d3]; exact sg_st g (by omega)
        · rw [if_neg d3]
          by_cases d4 : S.1.2.1 a.toNatClampNeg = S.1.2.1 b.toNatClampNeg
          · rw [if_pos d4]
            by_cases d5 : iP i n (S.1.2.2.1 a.toNatClampNeg)
            · rw [if_pos d5]
              by_cases d6 : iP j n (S.1.2.2.1 b.toNatClampNeg)
              · rw [if_pos d6]
                exact ⟨Nat.zero_le _, g.2⟩
              · rw [if_neg d6]; exact sg_st g (by omega)
            · rw [if_neg d5]; exact sg_st g (by omega)
          · rw [if_neg d4]; exact sg_st g (by omega)
    · rw [if_neg d1]; exact g
  · rw [if_neg d0]; exact g
theorem sg_drop {S : jS} {r : Int32} (g : SG S) : SG (sp_drop r S).2 := by
  unfold sp_drop
  by_cases d0 : iR r 0 7
  · rw [if_pos d0]
    by_cases d1 : S.1.2.1 r.toNatClampNeg = 3
    · rw [if_pos d1]; exact sg_st g (by omega)
    · rw [if_neg d1]
      refine ⟨Nat.zero_le _, fun q hq => ?_, g.2.2⟩
      have gq := g.2.1 q hq
      refine ⟨?_, gq.2⟩
      show va_up _ _ _ q ≤ 3
      unfold va_up
      split <;> omega
  · rw [if_neg d0]; exact g
theorem sg_feed {S : jS} {x : Int32} (g : SG S) : SG (sp_feed x S).2 := by
  unfold sp_feed
  by_cases d0 : iR x 0 255
  · rw [if_pos d0]
    by_cases d1 : S.2.1.1 = 100
    · rw [if_pos d1]; exact g
    · rw [if_neg d1]
      have x2 := cl_le d0 (by omega)
      have g2 := g.2.2.1
      refine ⟨g.1, g.2.1, ⟨by show S.2.1.1 + 1 ≤ 100; omega, fun i hi => ?_, g2.2.2⟩, g.2.2.2⟩
      show va_up _ _ _ i ≤ 255
      have hi2 : i < S.2.1.1 + 1 := hi
      unfold va_up
      by_cases e : i = S.2.1.1
      · rw [if_pos e]; exact x2
      · rw [if_neg e]; exact g2.2.1 i (by omega)
  · rw [if_neg d0]; exact g
theorem sg_daysN : ∀ (n : Nat) {S : jS}, SG S → S.2.2.1 4 + n ≤ 9999 → SG (s_daysN n S)
  | 0, _, g, _ => g
  | n + 1, S, g, h => sg_daysN n (SG_act g (s_pass_ok g.2.2.2.1.1) (by rw [s_pass_4]; omega) g.2.2.2.1.2.2) (by show s_pass S.2.2.1 4 + n ≤ 9999; rw [s_pass_4]; omega)
theorem sg_days {S : jS} {n : Int32} (g : SG S) : SG (sp_days n S).2 := by
  unfold sp_days
  by_cases d0 : 0 < S.2.2.1 2
  · rw [if_pos d0]
    by_cases d1 : iR n 1 24
    · rw [if_pos d1]
      by_cases d2 : S.2.2.1 4 + n.toNatClampNeg ≤ 9999
      · rw [if_pos d2]
        exact sg_daysN _ g d2
      · rw [if_neg d2]; exact g
    · rw [if_neg d1]; exact g
  · rw [if_neg d0]; exact g
theorem sg_peg {S : jS} {x v : Int32} (g : SG S) : SG (sp_peg x v S).2 := by
  unfold sp_peg
  by_cases d0 : iN x (S.2.2.1 3)
  · rw [if_pos d0]
    by_cases d1 : iR v 0 1
    · rw [if_pos d1]
      by_cases d2 : S.2.2.1 (13 + 4 * x.toNatClampNeg + 3) = v.toNatClampNeg
      · rw [if_pos d2]; exact g
      · rw [if_neg d2]
        refine SG_act g (g.2.2.2.1.1.peg (cl_le d1 (by omega))) ?_ ?_
        · rw [up_ne (by omega)]; exact g.2.2.2.1.2.1
        · rw [up_ne (by omega), up_ne (by omega)]; exact g.2.2.2.1.2.2
    · rw [if_neg d1]; exact g
  · rw [if_neg d0]; exact g
theorem sg_move {S : jS} {x y : Int32} (g : SG S) : SG (sp_move x y S).2 := by
  unfold sp_move
  by_cases d0 : iN x (S.2.2.1 3)
  · rw [if_pos d0]
    by_cases d1 : iN y (S.2.2.1 2)
    · rw [if_pos d1]
      by_cases d2 : S.2.2.1 (13 + 4 * x.toNatClampNeg + 2) = y.toNatClampNeg
      · rw [if_pos d2]; exact g
      · rw [if_neg d2]
        have h8 := g.2.2.2.1.1.2.2.1
        refine SG_act g (g.2.2.2.1.1.place (cl_lt d1 (by omega))) ?_ ?_
        · rw [up_ne (by omega)]; exact g.2.2.2.1.2.1
        · rw [up_ne (by omega), up_ne (by omega)]; exact g.2.2.2.1.2.2
    · rw [if_neg d1]; exact g
  · rw [if_neg d0]; exact g
theorem sg_light {S : jS} {x v : Int32} (g : SG S) : SG (sp_light x v S).2 := by
  unfold sp_light
  by_cases d0 : iN x (S.2.2.1 2)
  · rw [if_pos d0]
    by_cases d1 : iR v 0 20
    · rw [if_pos d1]
      have h8 := g.2.2.2.1.1.2.2.1
      have xl := cl_lt d0 (by omega)
      have v20 := cl_le d1 (by omega)
      refine SG_act g (g.2.2.2.1.1.fire (by omega) (by omega)) ?_ ?_
      · rw [up_ne (by omega)]; exact g.2.2.2.1.2.1
      · rw [up_ne (by omega), up_ne (by omega)]; exact g.2.2.2.1.2.2
    · rw [if_neg d1]; exact g
  · rw [if_neg d0]; exact g
theorem sg_weather {S : jS} {v : Int32} (g : SG S) : SG (sp_weather v S).2 := by
  unfold sp_weather
  by_cases d0 : 0 < S.2.2.1 2
  · rw [if_pos d0]
    by_cases d1 : iR v 0 15
    · rw [if_pos d1]
      refine SG_act g (g.2.2.2.1.1.warm (cl_le d1 (by omega))) ?_ ?_
      · rw [up_ne (by omega)]; exact g.2.2.2.1.2.1
      · rw [up_ne (by omega), up_ne (by omega)]; exact g.2.2.2.1.2.2
    · rw [if_neg d1]; exact g
  · rw [if_neg d0]; exact g
theorem sg_undo {S : jS} (g : SG S) : SG (sp_undo S).2 := by
  unfold sp_undo
  by_cases d0 : S.2.2.2.1.1 = 0
  · rw [if_pos d0]; exact g
  · rw [if_neg d0]
    have gp := g.2.2.2.2.1
    have q := gp.2 (S.2.2.2.1.1 - 1) (by omega)
    exact sg_now g q.1 q.2.1 q.2.2 (by omega) (fun j hj => gp.2 j (by omega))
theorem sg_image {S : jS} {k : Int32} (g : SG S) : SG (sp_image k S).2 := by
  unfold sp_image
  by_cases d0 : iR k 0 1
  · rw [if_pos d0]
    by_cases d1 : 0 < S.2.2.1 2
    · rw [if_pos d1]
      refine ⟨g.1, g.2.1, g.2.2.1, g.2.2.2.1, g.2.2.2.2.1, fun q hq => ?_, g.2.2.2.2.2.2⟩
      show g_ok (if q = k.toNatClampNeg then S.2.2.1 else S.2.2.2.2.1 q) ∧ (if q = k.toNatClampNeg then S.2.2.1 else S.2.2.2.2.1 q) 4 ≤ 9999 ∧ (0 < (if q = k.toNatClampNeg then S.2.2.1 else S.2.2.2.2.1 q) 2 ↔ 0 < (if q = k.toNatClampNeg then S.2.2.1 else S.2.2.2.2.1 q) 1)
      by_cases e : q = k.toNatClampNeg
      · rw [if_pos e]; exact g.2.2.2.1
      · rw [if_neg e]; exact g.2.2.2.2.2.1 q hq
    · rw [if_neg d1]; exact g
  · rw [if_neg d0]; exact g
theorem sg_restore {S : jS} {k : Int32} (g : SG S) : SG (sp_restore k S).2 := by
  unfold sp_restore
  by_cases d0 : iR k 0 1
  · rw [if_pos d0]
    by_cases d1 : 0 < S.2.2.2.2.1 k.toNatClampNeg 2
    · rw [if_pos d1]
      have q := g.2.2.2.2.2.1 k.toNatClampNeg (by have := cl_le d0 (by omega); omega)
      exact sg_now g q.1 q.2.1 q.2.2 (Nat.zero_le _) (fun j hj => absurd hj (Nat.not_lt_zero j))
    · rw [if_neg d1]; exact g
  · rw [if_neg d0]; exact g
theorem sg_fits {S : jS} {x r i n v : Int32} (g : SG S) : SG (sp_fits x r i n v S).2 := by
  unfold sp_fits
  by_cases d0 : iN x (S.2.2.1 3)
  · rw [if_pos d0]
    by_cases d1 : iR r 0 7
    · rw [if_pos d1]
      by_cases d2 : iR n 1 12
      · rw [if_pos d2]
        by_cases d3 : iR v 0 4
        · rw [if_pos d3]
          by_cases d4 : S.1.2.1 r.toNatClampNeg = 3
          · rw [if_pos d4]; exact sg_st g (by omega)
          · rw [if_neg d4]
            by_cases d5 : iP i n (S.1.2.2.1 r.toNatClampNeg)
            · rw [if_pos d5]
              exact sg_st g (by omega)
            · rw [if_neg d5]; exact sg_st g (by omega)
        · rw [if_neg d3]; exact g
      · rw [if_neg d2]; exact g
    · rw [if_neg d1]; exact g
  · rw [if_neg d0]; exact g
theorem sg_as {S : jS} {x v : Int32} (g : SG S) : SG (sp_as x v S).2 := by
  unfold sp_as
  by_cases d0 : iN x (S.2.2.1 3)
  · rw [if_pos d0]
    by_cases d1 : iR v 0 5
    · rw [if_pos d1]
      by_cases d2 : s_isa (S.2.2.1 (13 + 4 * x.toNatClampNeg)) v.toNatClampNeg
      · rw [if_pos d2]
        exact sg_st g (by omega)
      · rw [if_neg d2]; exact sg_st g (by omega)
    · rw [if_neg d1]; exact g
  · rw [if_neg d0]; exact g
theorem l_all {K v : Nat} : ∀ L, L = l_ts K ∨ L = l_lz K ∨ L = 23 :: 20 :: l_ts K ∨ L = l_mk K → L.length ≤ 16 ∧ ∀ i, i < L.length → L.getD i 0 ≤ 100 := by
  have dec : ∀ L : List Nat, L ∈ [[13, 10], [14, 13, 10], [12, 11, 10, 21, 20], [12, 11, 10, 24, 21, 20], [12, 11, 10, 22, 21, 20], [11, 10, 21, 20], [11, 10, 24, 21, 20], [11, 10, 22, 21, 20], [23, 20, 13, 10], [23, 20, 14, 13, 10], [21, 20], [24, 21, 20], [22, 21, 20]] → L.length ≤ 16 ∧ ∀ i, i < L.length → L.getD i 0 ≤ 100 := by decide +kernel
  intro L h
  refine dec L ?_
  rcases h with rfl | rfl | rfl | rfl
  · unfold l_ts; split <;> simp
  · unfold l_lz l_mk; repeat' split
    all_goals simp
  · unfold l_ts; split <;> simp
  · unfold l_mk; repeat' split
    all_goals simp
theorem sg_ask {S : jS} {x v : Int32} (g : SG S) : SG (sp_ask x v S).2 := by
  unfold sp_ask
  by_cases d0 : iN x (S.2.2.1 3)
  · rw [if_pos d0]
    by_cases d1 : iR v 0 1
    · rw [if_pos d1]
      have q := l_all (K := S.2.2.1 (13 + 4 * x.toNatClampNeg)) (v := 0) (s_askL S.2.2.1 x.toNatClampNeg v.toNatClampNeg) (by
        unfold s_askL
        repeat' split
        · exact Or.inl rfl
        · exact Or.inr (Or.inl rfl)
        · exact Or.inr (Or.inr (Or.inl rfl))
        · exact Or.inr (Or.inr (Or.inr rfl)))
      exact ⟨g.1, g.2.1, g.2.2.1, g.2.2.2.1, g.2.2.2.2.1, g.2.2.2.2.2.1, q.1, q.2⟩
    · rw [if_neg d1]; exact g
  · rw [if_neg d0]; exact g
def f_ok (x : sT) : Prop := ∀ q, x = .inr q → q.1 ≤ 3
theorem f_ok.l {a : Nat} : f_ok (.inl a) := fun _ z => nomatch z
theorem f_ok.r {k a : Nat} (h : k ≤ 3) : f_ok (.inr (k, a)) := fun _ z => by cases z; exact h
theorem f_B {n : Nat} {T : Nat → Nat} {c : Nat} {x : sT} (h : f_ok x) : f_ok (s_B n T c x) := by
  cases x with
  | inr q => exact h
  | inl a =>
    by_cases z : b_is n T c a
    · rw [s_B_t z]; exact f_ok.l
    · rw [s_B_f z]; exact f_ok.r (by omega)
theorem f_N {n : Nat} {T : Nat → Nat} {lo hi : Nat} {x : sT} (h : f_ok x) : f_ok (s_N n T lo hi x).2 := by
  cases x with
  | inr q => exact h
  | inl a =>
    by_cases z : n_ok n T lo hi a
    · rw [s_N_t z]; exact f_ok.l
    · rw [s_N_f z]
      refine f_ok.r ?_
      split <;> omega
theorem f_M {P : Prop} [Decidable P] {x : sT} (h : f_ok x) : f_ok (s_M P x) := by
  cases x with
  | inr q => exact h
  | inl a =>
    by_cases c : P
    · rw [show s_M P (.inl a) = .inl a from if_pos c]; exact f_ok.l
    · rw [show s_M P (.inl a) = .inr (1, a) from if_neg c]; exact f_ok.r (by omega)
theorem f_hl {n : Nat} {T : Nat → Nat} : ∀ (k : Nat) (x : sT) {u : hw}, f_ok x → f_ok (s_hl n T k x u).1
  | k, .inr q, u, h => by rw [s_hl_r]; exact h
  | 0, .inl a, u, h => by
    by_cases c : b_is n T 102 a
    · rw [s_hl_0 c]; exact f_ok.r (by omega)
    · rw [s_hl_f c]; exact f_ok.l
  | k + 1, .inl a, u, h => by
    by_cases c : b_is n T 102 a
    · have f1 : f_ok (s_h1 n T a).2 := f_B (f_N f_ok.l)
      cases e : (s_h1 n T a).2 with
      | inr q => rw [s_hl_x c e]; rw [e] at f1; exact f1
      | inl a' => rw [s_hl_s c e]; exact f_hl k (.inl a') f_ok.l
    · rw [s_hl_f c]; exact f_ok.l
theorem f_pl {n : Nat} {T : Nat → Nat} : ∀ (k : Nat) (x : sT) {u : hw}, f_ok x → f_ok (s_pl n T k x u).1
  | k, .inr q, u, h => by rw [s_pl_r]; exact h
  | 0, .inl a, u, h => by
    by_cases c : a < n ∧ 0 < s_kd (T a)
    · rw [s_pl_0 c]; exact f_ok.r (by omega)
    · rw [s_pl_f c]; exact f_ok.l
  | k + 1, .inl a, u, h => by
    by_cases c : a < n ∧ 0 < s_kd (T a)
    · have f1 : f_ok (s_p4 n T (u 2) a) := f_B (f_N (f_B (f_N (f_B (f_N f_ok.l)))))
      cases e : s_p4 n T (u 2) a with
      | inr q => rw [s_pl_x c e]; rw [e] at f1; exact f1
      | inl a' => rw [s_pl_s c e]; exact f_pl k (.inl a') f_ok.l
    · rw [s_pl_f c]; exact f_ok.l
theorem f_en {n : Nat} {x : sT} (h : f_ok x) : f_ok (s_en n x) := by
  cases x with
  | inr q => exact h
  | inl a =>
    by_cases c : a < n
    · rw [show s_en n (.inl a) = .inr (1, a) from if_pos c]; exact f_ok.r (by omega)
    · rw [show s_en n (.inl a) = .inl a from if_neg c]; exact f_ok.l
theorem f_hx {n : Nat} {T : Nat → Nat} : f_ok (s_hx n T) := f_en (f_pl 7 _ (f_M (f_hl 8 _ (f_B (f_N (f_B (f_N (f_B f_ok.l))))))))
theorem sg_house {S : jS} (g : SG S) : SG (sp_house S).2 := by
  cases e : s_hx S.2.1.1 S.2.1.2.1 with
  | inl a =>
    rw [sp_house_l e]
    obtain ⟨q1, q2, q3, q4⟩ := s_ps_ok e
    exact ⟨g.1, g.2.1, ⟨Nat.zero_le _, fun _ hi => absurd hi (Nat.not_lt_zero _), g.2.2.1.2.2⟩, ⟨q1, by show (s_ps _ _).2 4 ≤ 9999; omega, ⟨fun _ => q4, fun _ => by show 0 < (s_ps _ _).2 2; omega⟩⟩, ⟨Nat.zero_le _, fun _ hj => absurd hj (Nat.not_lt_zero _)⟩, g.2.2.2.2.2.1, g.2.2.2.2.2.2⟩
  | inr q =>
    rw [sp_house_r e]
    exact ⟨g.1, g.2.1, ⟨Nat.zero_le _, fun _ hi => absurd hi (Nat.not_lt_zero _), f_hx q e⟩, g.2.2.2⟩
