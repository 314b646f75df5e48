theorem GR_t {a b : Bool} {L0 L L1 : Nat → Int} (h1 : GR a L0 L) (h2 : GR b L L1) : GR (b || a) L0 L1 := by
  refine ⟨fun j => Int.le_trans (h1.1 j) (h2.1 j), ?_, ?_⟩
  · intro z
    rw [Bool.or_eq_false_iff] at z
    rw [h2.2.1 z.1, h1.2.1 z.2]
  · intro z
    have m1 := s9_m h1.1
    have m2 := s9_m h2.1
    rw [Bool.or_eq_true] at z
    rcases z with z | z
    · have := h2.2.2 z
      omega
    · have := h1.2.2 z
      omega
theorem mp63 {F : Nat} (hF : 100 ≤ F) {sRo : MS} {r : Nat → Int32} (hR : RR sRo r) (h : ROK r) {mn : Bool} {M Q : Nat → Nat → Int} (hQ : Clo r mn M Q) (hs : ∀ p x, x ≤ 40 → M p x < 1000000000 → M p x ≤ 20000000) (hq : ∀ p f, Q p f < 1000000000 → Q p f ≤ 30000000) (p2 x4 : Int32) {L0 : Nat → Int} (k46 : Int32 → Int32 → MS → Option (Int32 × MS)) : ∀ (d p n : Nat) (fl : Bool) (s : MS) (L : Nat → Int), p + d = nP r → d < n → LK r M Q L → (∀ j, j < 9 → s.2.2.1 2 j = Int32.ofInt (L j)) → GR fl L0 L → (fl = false → ∀ p' q, p' < p → q < nP r → 0 < tk r p' q → tk r p' q ≤ L0 p' → mo r p' q L0 ≤ L0 q) →
    ∃ fl' s' L', f_X5_mostPints_63 F sRo p2 k46 n (Int32.ofInt (fI fl)) x4 (Int32.ofInt (p : Int)) s = k46 (Int32.ofInt (fI fl')) (x4 + 1) s' ∧ LK r M Q L' ∧ (∀ j, j < 9 → s'.2.2.1 2 j = Int32.ofInt (L' j)) ∧ GR fl' L0 L' ∧ (fl' = false → LC r L0) := by
  obtain ⟨q0, q1, q2, q3, q4, q5, q8, q9⟩ := RRb hR
  obtain ⟨c1, c2, c3, c4, c5⟩ := nTP h
  intro d
  induction d with
  | zero =>
    intro p n fl s L hp hn H hs' G hcl
    cases n with
    | zero => omega
    | succ n =>
      refine ⟨fl, s, L, ?_, H, hs', G, fun z p' q hp' hq' => hcl z p' q (by omega) hq'⟩
      rw [f_X5_mostPints_63]
      simp (disch := omega) only [z_0, z_1, z_2, z_3, z_4, z_5, z_6, z_7, z_8, z_9, z_10, z_11, z_12, z_14, z_18, z_20, z_22, z_24, z_32, z_38, z_40, z_41, z_44, z_48, z_49, z_57, z_59, z_60, z_63, z_65, z_74, z_75, z_81, z_97, z_99, z_104, z_115, z_119, z_122, z_200, z_209, z_210, z_219, z_228, z_255, z_300, z_369, z_999, z_65537, z_268435456, z_1000000000, n_nat, n_add, n_sub, n_mul, n_neg, n_lt, n_le, n_eq, n_ix, n_gd, n_nz, lz_t, bd_some, tn, Int.reduceToNat, tn_1, if_pos, if_neg, if_true, if_false, q5, f_X5_mostPints_98]
  | succ d ih =>
    intro p n fl s L hp hn H hs' G hcl
    cases n with
    | zero => omega
    | succ n =>
      obtain ⟨f1, s1, L1, y1, y2, y3, y4, y5⟩ := fn5 (F := F) hR h hQ hs hq (L0 := L) (p := p) (by omega) (nP r) 0 F false s L (by omega) (by omega) H hs' ⟨fun _ => Int.le_refl _, fun _ => rfl, fun z => absurd z (by decide)⟩ (fun _ q hq' => by omega)
      have y1' : f_X5_fillNext F sRo (Int32.ofInt (p : Int)) s = some (Int32.ofInt (fI f1), s1) := y1
      obtain ⟨fl', s', L', z1, z2, z3, z4, z5⟩ := ih (p + 1) n (f1 || fl) s1 L1 (by omega) (by omega) y2 y3 (GR_t G y4) (by
        intro z p' q hp' hq' t1 t2
        rw [Bool.or_eq_false_iff] at z
        by_cases e : p' = p
        · subst e
          have eL : L = L0 := G.2.1 z.2
          subst eL
          exact (y5 z.1).2 q hq' t1 t2
        · exact hcl z.2 p' q (by omega) hq' t1 t2)
      refine ⟨fl', s', L', ?_, z2, z3, z4, z5⟩
      rw [f_X5_mostPints_63, ← z1]
      have ef : (p : Int) + 1 = ((p + 1 : Nat) : Int) := by omega
      cases fl with
      | false =>
        cases f1 with
        | false => simp (disch := omega) only [z_0, z_1, z_2, z_3, z_4, z_5, z_6, z_7, z_8, z_9, z_10, z_11, z_12, z_14, z_18, z_20, z_22, z_24, z_32, z_38, z_40, z_41, z_44, z_48, z_49, z_57, z_59, z_60, z_63, z_65, z_74, z_75, z_81, z_97, z_99, z_104, z_115, z_119, z_122, z_200, z_209, z_210, z_219, z_228, z_255, z_300, z_369, z_999, z_65537, z_268435456, z_1000000000, n_nat, n_add, n_sub, n_mul, n_neg, n_lt, n_le, n_eq, n_ix, n_gd, n_nz, lz_t, bd_some, tn, Int.reduceToNat, tn_1, if_pos, if_neg, if_true, if_false, q5, y1', fI, f_X5_mostPints_91, f_X5_mostPints_86, Bool.false_eq_true, Bool.or_false, ef]
        | true => simp (disch := omega) only [z_0, z_1, z_2, z_3, z_4, z_5, z_6, z_7, z_8, z_9, z_10, z_11, z_12, z_14, z_18, z_20, z_22, z_24, z_32, z_38, z_40, z_41, z_44, z_48, z_49, z_57, z_59, z_60, z_63, z_65, z_74, z_75, z_81, z_97, z_99, z_104, z_115, z_119, z_122, z_200, z_209, z_210, z_219, z_228, z_255, z_300, z_369, z_999, z_65537, z_268435456, z_1000000000, n_nat, n_add, n_sub, n_mul, n_neg, n_lt, n_le, n_eq, n_ix, n_gd, n_nz, lz_t, bd_some, tn, Int.reduceToNat, tn_1, if_pos, if_neg, if_true, if_false, q5, y1', fI, f_X5_mostPints_91, f_X5_mostPints_86, Bool.false_eq_true, Bool.or_false, ef]
      | true =>
        cases f1 with
        | false => simp (disch := omega) only [z_0, z_1, z_2, z_3, z_4, z_5, z_6, z_7, z_8, z_9, z_10, z_11, z_12, z_14, z_18, z_20, z_22, z_24, z_32, z_38, z_40, z_41, z_44, z_48, z_49, z_57, z_59, z_60, z_63, z_65, z_74, z_75, z_81, z_97, z_99, z_104, z_115, z_119, z_122, z_200, z_209, z_210, z_219, z_228, z_255, z_300, z_369, z_999, z_65537, z_268435456, z_1000000000, n_nat, n_add, n_sub, n_mul, n_neg, n_lt, n_le, n_eq, n_ix, n_gd, n_nz, lz_t, bd_some, tn, Int.reduceToNat, tn_1, if_pos, if_neg, if_true, if_false, q5, y1', fI, f_X5_mostPints_91, f_X5_mostPints_86, Bool.false_eq_true, Bool.or_true, ef]
        | true => simp (disch := omega) only [z_0, z_1, z_2, z_3, z_4, z_5, z_6, z_7, z_8, z_9, z_10, z_11, z_12, z_14, z_18, z_20, z_22, z_24, z_32, z_38, z_40, z_41, z_44, z_48, z_49, z_57, z_59, z_60, z_63, z_65, z_74, z_75, z_81, z_97, z_99, z_104, z_115, z_119, z_122, z_200, z_209, z_210, z_219, z_228, z_255, z_300, z_369, z_999, z_65537, z_268435456, z_1000000000, n_nat, n_add, n_sub, n_mul, n_neg, n_lt, n_le, n_eq, n_ix, n_gd, n_nz, lz_t, bd_some, tn, Int.reduceToNat, tn_1, if_pos, if_neg, if_true, if_false, q5, y1', fI, f_X5_mostPints_91, f_X5_mostPints_86, Bool.false_eq_true, Bool.or_true, ef]
theorem mp46 {F : Nat} (hF : 100 ≤ F) {sRo : MS} {r : Nat → Int32} (hR : RR sRo r) (h : ROK r) {mn : Bool} {M Q : Nat → Nat → Int} (hQ : Clo r mn M Q) (hs : ∀ p x, x ≤ 40 → M p x < 1000000000 → M p x ≤ 20000000) (hq : ∀ p f, Q p f < 1000000000 → Q p f ≤ 30000000) (p2 : Int32) : ∀ (d k n : Nat) (fl : Bool) (s : MS) (L : Nat → Int), k + d = 369 → d + 1 < n → LK r M Q L → (∀ j, j < 9 → s.2.2.1 2 j = Int32.ofInt (L j)) → (fl = false → LC r L) → (fl = true → (k : Int) + 1 ≤ s9 L) →
    ∃ s' L', f_X5_mostPints_46 F sRo p2 n (Int32.ofInt (fI fl)) (Int32.ofInt (k : Int)) s = f_X5_mostPints_104 F sRo p2 s' ∧ LK r M Q L' ∧ (∀ j, j < 9 → s'.2.2.1 2 j = Int32.ofInt (L' j)) ∧ LC r L' := by
  obtain ⟨c1, c2, c3, c4, c5⟩ := nTP h
  intro d
  induction d with
  | zero =>
    intro k n fl s L hk hn H hs' h0 h1
    cases n with
    | zero => omega
    | succ n =>
      cases fl with
      | false =>
        refine ⟨s, L, ?_, H, hs', h0 rfl⟩
        rw [f_X5_mostPints_46]
        rfl
      | true =>
        have := h1 rfl
        have := s9_b h H
        omega
  | succ d ih =>
    intro k n fl s L hk hn H hs' h0 h1
    cases n with
    | zero => omega
    | succ n =>
      cases fl with
      | false =>
        refine ⟨s, L, ?_, H, hs', h0 rfl⟩
        rw [f_X5_mostPints_46]
        rfl
      | true =>
        have hk1 := h1 rfl
        obtain ⟨f1, s1, L1, y1, y2, y3, y4, y5⟩ := mp63 (F := F) hF hR h hQ hs hq p2 (Int32.ofInt (k : Int)) (L0 := L) (f_X5_mostPints_46 F sRo p2 n) (nP r) 0 F false s L (by omega) (by omega) H hs' ⟨fun _ => Int.le_refl _, fun _ => rfl, fun z => absurd z (by decide)⟩ (fun _ p' q hp' => by omega)
        have y1' : f_X5_mostPints_63 F sRo p2 (f_X5_mostPints_46 F sRo p2 n) F (Int32.ofInt 0) (Int32.ofInt (k : Int)) (Int32.ofInt 0) s = _ := y1
        obtain ⟨s', L', z1, z2, z3, z4⟩ := ih (k + 1) n f1 s1 L1 (by omega) (by omega) y2 y3 (by
          intro z
          rw [y4.2.1 z]
          exact y5 z) (by
          intro z
          have := y4.2.2 z
          omega)
        refine ⟨s', L', ?_, z2, z3, z4⟩
        rw [f_X5_mostPints_46, ← z1]
        simp (disch := omega) only [z_0, z_1, z_2, z_3, z_4, z_5, z_6, z_7, z_8, z_9, z_10, z_11, z_12, z_14, z_18, z_20, z_22, z_24, z_32, z_38, z_40, z_41, z_44, z_48, z_49, z_57, z_59, z_60, z_63, z_65, z_74, z_75, z_81, z_97, z_99, z_104, z_115, z_119, z_122, z_200, z_209, z_210, z_219, z_228, z_255, z_300, z_369, z_999, z_65537, z_268435456, z_1000000000, n_nat, n_add, n_sub, n_mul, n_neg, n_lt, n_le, n_eq, n_ix, n_gd, n_nz, lz_t, bd_some, tn, Int.reduceToNat, tn_1, if_pos, if_neg, if_true, if_false, fI, y1']
        rfl
theorem mo30 {F : Nat} {s : MS} {r : Nat → Int32} (h : ROK r) {M Q : Nat → Nat → Int} (hM : RG M) (hQ : RG Q) (hs : rep s M Q) {p : Nat} (hp : p < 9) {v : Int} (hv : v = -2 ∨ (0 ≤ v ∧ v ≤ (nT r : Int) ∧ fiN M Q p v)) (hx : ∀ f : Nat, (M p f < 1000000000 ∨ Q p f < 1000000000) → (f : Int) ≤ v) : ∀ (k n : Nat), k ≤ nT r + 1 → v < (k : Int) → k < n → f_X11_most_30 F (Int32.ofInt (p : Int)) n (Int32.ofInt ((k : Int) - 1)) s = some (Int32.ofInt v, s) := by
  obtain ⟨c1, c2, c3, c4, c5⟩ := nTP h
  intro k
  induction k with
  | zero =>
    intro n hk hv' hn
    cases n with
    | zero => omega
    | succ n =>
      have : v = -2 := by omega
      subst this
      rw [f_X11_most_30]
      simp (disch := omega) only [z_0, z_1, z_2, z_3, z_4, z_5, z_6, z_7, z_8, z_9, z_10, z_11, z_12, z_14, z_18, z_20, z_22, z_24, z_32, z_38, z_40, z_41, z_44, z_48, z_49, z_57, z_59, z_60, z_63, z_65, z_74, z_75, z_81, z_97, z_99, z_104, z_115, z_119, z_122, z_200, z_209, z_210, z_219, z_228, z_255, z_300, z_369, z_999, z_65537, z_268435456, z_1000000000, n_nat, n_add, n_sub, n_mul, n_neg, n_lt, n_le, n_eq, n_ix, n_gd, n_nz, lz_t, bd_some, tn, Int.reduceToNat, tn_1, if_pos, if_neg, if_true, if_false]
  | succ k ih =>
    intro n hk hv' hn
    cases n with
    | zero => omega
    | succ n =>
      have e1 : ((k + 1 : Nat) : Int) - 1 = (k : Int) := by omega
      have mk := hM p k
      have qk := hQ p k
      obtain ⟨cM, cQ⟩ := hs p k hp (by omega)
      rw [f_X11_most_30, e1]
      by_cases e : v = (k : Int)
      · subst e
        rcases hv with z | ⟨z1, z2, z3⟩
        · omega
        · have z3' : M p k < 1000000000 ∨ Q p k < 1000000000 := z3
          by_cases a : M p k < 1000000000
          · simp (disch := omega) only [z_0, z_1, z_2, z_3, z_4, z_5, z_6, z_7, z_8, z_9, z_10, z_11, z_12, z_14, z_18, z_20, z_22, z_24, z_32, z_38, z_40, z_41, z_44, z_48, z_49, z_57, z_59, z_60, z_63, z_65, z_74, z_75, z_81, z_97, z_99, z_104, z_115, z_119, z_122, z_200, z_209, z_210, z_219, z_228, z_255, z_300, z_369, z_999, z_65537, z_268435456, z_1000000000, n_nat, n_add, n_sub, n_mul, n_neg, n_lt, n_le, n_eq, n_ix, n_gd, n_nz, lz_t, bd_some, tn, Int.reduceToNat, tn_1, if_pos, if_neg, if_true, if_false, tn_41, cM]
          · simp (disch := omega) only [z_0, z_1, z_2, z_3, z_4, z_5, z_6, z_7, z_8, z_9, z_10, z_11, z_12, z_14, z_18, z_20, z_22, z_24, z_32, z_38, z_40, z_41, z_44, z_48, z_49, z_57, z_59, z_60, z_63, z_65, z_74, z_75, z_81, z_97, z_99, z_104, z_115, z_119, z_122, z_200, z_209, z_210, z_219, z_228, z_255, z_300, z_369, z_999, z_65537, z_268435456, z_1000000000, n_nat, n_add, n_sub, n_mul, n_neg, n_lt, n_le, n_eq, n_ix, n_gd, n_nz, lz_t, bd_some, tn, Int.reduceToNat, tn_1, if_pos, if_neg, if_true, if_false, tn_41, cM, cQ]
      · have a : ¬ M p k < 1000000000 := fun z => by have := hx k (Or.inl z); omega
        have b : ¬ Q p k < 1000000000 := fun z => by have := hx k (Or.inr z); omega
        have nx := ih n (by omega) (by omega) (by omega)
        simp (disch := omega) only [z_0, z_1, z_2, z_3, z_4, z_5, z_6, z_7, z_8, z_9, z_10, z_11, z_12, z_14, z_18, z_20, z_22, z_24, z_32, z_38, z_40, z_41, z_44, z_48, z_49, z_57, z_59, z_60, z_63, z_65, z_74, z_75, z_81, z_97, z_99, z_104, z_115, z_119, z_122, z_200, z_209, z_210, z_219, z_228, z_255, z_300, z_369, z_999, z_65537, z_268435456, z_1000000000, n_nat, n_add, n_sub, n_mul, n_neg, n_lt, n_le, n_eq, n_ix, n_gd, n_nz, lz_t, bd_some, tn, Int.reduceToNat, tn_1, if_pos, if_neg, if_true, if_false, tn_41, cM, cQ]
        exact nx
theorem P_most {F : Nat} (hF : 800000000000 ≤ F) {sMn sRo sNe sMo : MS} (hR : RR sRo (sMo.2.2.1 15)) (H : HR (sMo.2.2.1 15) (sMo.1 14)) (p : Int32) :
    ∃ v sMn' sNe' sMo', f_X10_most F sRo p sMn sNe = some (v, sMn', sNe') ∧ f_X11_most F p sMo = some (v, sMo') ∧ TU sMn sMo sMn' sMo' := by
  unfold f_X10_most f_X11_most
  rw [X9_isPlace hR, bd_some, X11_good', bd_some, X11_isPlace (s := gQ sMo) H, bd_some, gQ_15]
  cases c : isP (sMo.2.2.1 15) p with
  | false => exact ⟨_, _, _, _, rfl, rfl, TU_n (KP_r _) 1⟩
  | true =>
    rcases H with ⟨h1, h2⟩ | ⟨h1, h2⟩
    · generalize hrr : sMo.2.2.1 15 = r at *
      obtain ⟨q0, q1, q2, q3, q4, q5, q8, q9⟩ := RRb hR
      obtain ⟨t0, t1, t2, t3, t4, t5, t8, t9⟩ := ROKb h2
      obtain ⟨c1, c2, c3, c4, c5⟩ := nTP h2
      obtain ⟨a, a9, a5, rfl⟩ := isP_x t5.2 c
      have hm : (1 : Int32) = 0 ↔ true = false := by decide
      obtain ⟨s', M, Q, l1, l2, l3, l4, l5, l6, l7⟩ := layNet_e (F := F) hF h2 hm (gQ sMo) hrr
      have hr' : s'.2.2.1 15 = r := (l7.2 15 (by omega)).trans hrr
      obtain ⟨hs, mono⟩ := M_small (F := F) (by omega) hR h2 hm l3 l6 l5
      have rq := (reach h2 l5 l6).2
      have hq : ∀ p f, Q p f < 1000000000 → Q p f ≤ 30000000 := by
        intro p f hf
        obtain ⟨g, g1, g2, g3, g4, g5, g6⟩ := rq p f hf
        have := hs p g (by omega) g5
        have := bc_b h2 true (p := p) (n := f - g) (by omega) (by omega)
        omega
      obtain ⟨w1, w2⟩ := wp_b h2 (i := 0) (by omega)
      have wR := hR.2.2.2.2.1 0 (by show ((0 : Nat) : Int) < rd r 8; omega)
      rw [w2] at wR
      have wP : wp r 0 < nP r := by
        have := (h2.2.2.2.2.2.2.2.2.2.2.2.2.2.1 0 (by show ((0 : Nat) : Int) < rd r 8; omega))
        have e := i_nat (r (200 + 0)) this.1
        have e5 : (r 5).toInt = rd r 5 := rfl
        unfold wp
        omega
      have a1 : sRo.2.2.1 12 (wp r 0) = Int32.ofInt (pm r (wp r 0)) := by
        rw [(hR.2.2.2.1 (wp r 0) w1).1]
        exact rd_e r _
      have pb := pm_b h2 w1
      have m0 : M (wp r 0) (rd r 1).toNat = 0 := by
        have x := mono (wp r 0) (rd r 1).toNat
        have y := l3 (wp r 0) (rd r 1).toNat
        unfold I0 at x
        rw [if_pos ⟨rfl, rfl⟩] at x
        omega
      obtain ⟨g, g1, g2, -⟩ := fillI (F := F) 9 (by omega) (by omega) (Int32.ofInt (-2)) (sNe.2.2.1 2)
      have start : ∀ lv : Int, (lv = if 0 < pm r (wp r 0) then rd r 0 else rd r 1) → ∃ s2 L', f_X5_mostPints_40 F sRo (Int32.ofInt (a : Int)) (Int32.ofInt (wp r 0 : Int)) (Int32.ofInt lv) (wA sNe 2 g) = f_X5_mostPints_104 F sRo (Int32.ofInt (a : Int)) s2 ∧ LK r M Q L' ∧ (∀ j, j < 9 → s2.2.2.1 2 j = Int32.ofInt (L' j)) ∧ LC r L' := by
        intro lv hlv
        have lb : 0 ≤ lv ∧ lv ≤ (nT r : Int) ∧ rd r 1 ≤ lv := by
          split at hlv <;> omega
        have fin : fiN M Q (wp r 0) lv := by
          unfold fiN
          by_cases cp : 0 < pm r (wp r 0)
          · rw [if_pos cp] at hlv
            by_cases e : (rd r 1).toNat = nT r
            · left
              rw [show lv.toNat = (rd r 1).toNat by omega, m0]
              omega
            · right
              have bb := bc_b h2 true (p := wp r 0) (n := nT r - (rd r 1).toNat) w1 (by omega)
              have := (l6 (wp r 0) (rd r 1).toNat wP (by omega)).1 cp (by omega) (nT r) (by omega) (Nat.le_refl _)
              rw [show lv.toNat = nT r by omega]
              omega
          · rw [if_neg cp] at hlv
            left
            rw [show lv.toNat = (rd r 1).toNat by omega, m0]
            omega
        obtain ⟨s2, L', z1, z2, z3, z4⟩ := mp46 (F := F) (by omega) hR h2 l6 hs hq (Int32.ofInt (a : Int)) 369 0 F true (sA (wA sNe 2 g) 2 (wp r 0) (Int32.ofInt lv)) (fun j => if j = wp r 0 then lv else -2) (by omega) (by omega) (by
          refine ⟨?_, ?_⟩
          · intro j hj
            show (if j = wp r 0 then lv else -2) = _ ∨ _
            by_cases e : j = wp r 0
            · subst e
              right
              show 0 ≤ (if wp r 0 = wp r 0 then lv else -2) ∧ (if wp r 0 = wp r 0 then lv else -2) ≤ _ ∧ (_ → (if wp r 0 = wp r 0 then lv else -2) = _) ∧ _ ∧ fiN M Q _ (if wp r 0 = wp r 0 then lv else -2)
              rw [if_pos rfl]
              refine ⟨lb.1, lb.2.1, fun cp => ?_, wP, fin⟩
              rw [if_pos cp] at hlv
              omega
            · left
              rw [if_neg e]
          · show _ ≤ (if wp r 0 = wp r 0 then lv else -2)
            rw [if_pos rfl]
            omega) (by
          intro j hj
          by_cases e : j = wp r 0
          · subst e
            show _ = Int32.ofInt (if wp r 0 = wp r 0 then lv else -2)
            rw [if_pos rfl]
            simp (disch := omega) only [sI_a, sI_b, sL_a, sL_b, sL_c, wA_a, wA_b, wA_c, wA_d, wB_a, wB_b, wB_c, wB_d, sA_w, sB_w, uN_s, uN_n, up_s, up_n, ul_s, ul_n, p_fst, p_snd]
          · show _ = Int32.ofInt (if j = wp r 0 then lv else -2)
            rw [if_neg e]
            simp (disch := omega) only [sI_a, sI_b, sL_a, sL_b, sL_c, wA_a, wA_b, wA_c, wA_d, wB_a, wB_b, wB_c, wB_d, sA_w, sB_w, uN_s, uN_n, up_s, up_n, ul_s, ul_n, p_fst, p_snd]
            exact g2 j hj) (fun z => absurd z (by decide)) (by
          intro _
          have k := s9_s (L := fun _ => -2) (L' := fun j => if j = wp r 0 then lv else -2) (by
            intro j
            show -2 ≤ (if j = wp r 0 then lv else -2)
            split <;> omega) (q := wp r 0) w1 (by
            show -2 < (if wp r 0 = wp r 0 then lv else -2)
            rw [if_pos rfl]
            omega) (by
            show 0 ≤ (if wp r 0 = wp r 0 then lv else -2)
            rw [if_pos rfl]
            omega)
          have : s9 (fun _ => -2) = 0 := by decide
          omega)
        refine ⟨s2, L', ?_, z2, z3, z4⟩
        unfold f_X5_mostPints_40
        have z1' : f_X5_mostPints_46 F sRo (Int32.ofInt (a : Int)) F (Int32.ofInt 1) (Int32.ofInt 0) (sA (wA sNe 2 g) 2 (wp r 0) (Int32.ofInt lv)) = _ := z1
        simp (disch := omega) only [z_0, z_1, z_2, z_3, z_4, z_5, z_6, z_7, z_8, z_9, z_10, z_11, z_12, z_14, z_18, z_20, z_22, z_24, z_32, z_38, z_40, z_41, z_44, z_48, z_49, z_57, z_59, z_60, z_63, z_65, z_74, z_75, z_81, z_97, z_99, z_104, z_115, z_119, z_122, z_200, z_209, z_210, z_219, z_228, z_255, z_300, z_369, z_999, z_65537, z_268435456, z_1000000000, n_nat, n_add, n_sub, n_mul, n_neg, n_lt, n_le, n_eq, n_ix, n_gd, n_nz, lz_t, bd_some, tn, Int.reduceToNat, tn_1, if_pos, if_neg, if_true, if_false, z1']
      obtain ⟨s2, L', y1, y2, y3, y4⟩ := start _ rfl
      have all := LC_all h2 l5 y2 y4 wP
      have g1' : f_J7_fill_53178 F 9 (Int32.ofInt (-2)) (sNe.2.2.1 2) = some g := g1
      have cls : f_X5_mostPints F sRo (Int32.ofInt (a : Int)) sNe = some (Int32.ofInt (L' a), s2) := by
        unfold f_X5_mostPints
        have va := y3 a a9
        by_cases cp : 0 < pm r (wp r 0)
        · rw [if_pos cp] at y1
          simp (disch := omega) only [z_0, z_1, z_2, z_3, z_4, z_5, z_6, z_7, z_8, z_9, z_10, z_11, z_12, z_14, z_18, z_20, z_22, z_24, z_32, z_38, z_40, z_41, z_44, z_48, z_49, z_57, z_59, z_60, z_63, z_65, z_74, z_75, z_81, z_97, z_99, z_104, z_115, z_119, z_122, z_200, z_209, z_210, z_219, z_228, z_255, z_300, z_369, z_999, z_65537, z_268435456, z_1000000000, n_nat, n_add, n_sub, n_mul, n_neg, n_lt, n_le, n_eq, n_ix, n_gd, n_nz, lz_t, bd_some, tn, Int.reduceToNat, tn_1, if_pos, if_neg, if_true, if_false, g1', f_X9_start, wR, a1, q0, y1, f_X5_mostPints_104, va]
        · rw [if_neg cp] at y1
          simp (disch := omega) only [z_0, z_1, z_2, z_3, z_4, z_5, z_6, z_7, z_8, z_9, z_10, z_11, z_12, z_14, z_18, z_20, z_22, z_24, z_32, z_38, z_40, z_41, z_44, z_48, z_49, z_57, z_59, z_60, z_63, z_65, z_74, z_75, z_81, z_97, z_99, z_104, z_115, z_119, z_122, z_200, z_209, z_210, z_219, z_228, z_255, z_300, z_369, z_999, z_65537, z_268435456, z_1000000000, n_nat, n_add, n_sub, n_mul, n_neg, n_lt, n_le, n_eq, n_ix, n_gd, n_nz, lz_t, bd_some, tn, Int.reduceToNat, tn_1, if_pos, if_neg, if_true, if_false, g1', f_X9_start, wR, a1, q1, y1, f_X5_mostPints_104, va]
      have La := y2.1 a a9
      have rf := mo30 (F := F) h2 l3 l4 l2 a9 (v := L' a) (by
        rcases La with z | ⟨z1, z2, z3, z4, z5⟩
        · exact Or.inl z
        · exact Or.inr ⟨z1, z2, z5⟩) (by
        intro f hf
        rcases hf with z | z
        · exact (all.1 a f z).2
        · exact (all.2 a f z).2) (nT r + 1) F (Nat.le_refl _) (by omega) (by omega)
      rw [show ((nT r + 1 : Nat) : Int) - 1 = rd r 0 by omega] at rf
      have r0 : s'.2.2.1 15 (0 : Int32).toNatClampNeg = Int32.ofInt (rd r 0) := by rw [hr']; exact rd_e r 0
      rw [if_neg (by decide), cls, bd_some, X10_accept, bd_some, if_neg (by decide), l1, bd_some, gd_t (by decide), lz_t, r0, rf]
      exact ⟨_, _, _, _, rfl, rfl, TU_k l7⟩
    · unfold isP at c
      rw [h2 5 (by omega), Bool.and_eq_true, decide_eq_true_eq, decide_eq_true_eq] at c
      have : (0 : Int32).toInt = 0 := rfl
      omega
