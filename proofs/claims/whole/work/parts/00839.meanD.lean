/-! the reference: best buys, a mean, all means -/
theorem bb_go {F : Nat} (hF : 100 ≤ F) {s : MS} {r : Nat → Int32} (hs : s.2.2.1 15 = r) (h : ROK r) {how : Int} (hh : how = 4 ∨ how = 5) {i : Nat} (hi : (i : Int) + 1 < rd r 8) {M : Nat → Int} (hM : ∀ y, y ≤ (rd r 0).toNat → s.2.2.2 27 (41 * (i + 1) + y) = Int64.ofInt (M y)) (hMb : ∀ y, y ≤ (rd r 0).toNat → 0 ≤ M y ∧ M y ≤ Bd ((rd r 8).toNat - 2 - i)) {x : Nat} (hx : x ≤ (rd r 0).toNat) {price : Int} (hp : 0 ≤ price) (hp2 : price ≤ 99) {c : Nat → Int} (hc : c = rC (lvA (if decide (5 ≤ how) then 0 else rd r 4 * Qd ((rd r 8).toNat - 2 - i)) (lg r i) M) (decide (5 ≤ how)) price (rd r 2) (Qd ((rd r 8).toNat - 2 - i)) x) :
    ∀ (d k n : Nat), k + d = (rd r 0).toNat - x → d < n → f_X11_bestBuy_6 F s (Int32.ofInt how) (Int32.ofInt (i : Int)) (Int32.ofInt (x : Int)) (Int32.ofInt price) n (Int32.ofInt ((minTo (if how = 4 then c else fun n => - c n) k : Nat) : Int)) (Int32.ofInt ((k + 1 : Nat) : Int)) = some (Int32.ofInt ((minTo (if how = 4 then c else fun n => - c n) ((rd r 0).toNat - x) : Nat) : Int)) := by
  obtain ⟨t0, t1, t2, t3, t4, t5, t8, t9⟩ := ROKb h
  have qb := QB_b ((rd r 8).toNat - 2 - i) (by omega)
  have l := lg_c h hi
  have m4 := mulg t4.1 t4.2 (show 0 ≤ Qd ((rd r 8).toNat - 2 - i) by omega) (Int.le_refl _)
  have lb := lvA_b (st := if decide (5 ≤ how) then 0 else rd r 4 * Qd ((rd r 8).toNat - 2 - i)) (l := lg r i) (by omega) (by split <;> omega) (by split <;> omega) hMb
  have r0 : s.2.2.1 15 0 = Int32.ofInt (rd r 0) := by rw [hs]; exact rd_e r 0
  have cb : ∀ n, x + n ≤ (rd r 0).toNat → 0 ≤ c n ∧ c n ≤ 1000000000000000000 := by
    intro n hn
    have b := lb _ hn
    have := rC_b (su := decide (5 ≤ how)) (p := price) (s := rd r 2) (tw := Qd ((rd r 8).toNat - 2 - i)) (Q := Qd ((rd r 8).toNat - 2 - i)) b.1 b.2 (by omega) hp hp2 (by omega) (by omega) (by omega) (by omega)
    rw [hc]
    omega
  have ce : ∀ n : Nat, x + n ≤ (rd r 0).toNat → f_X11_comes1 F s (Int32.ofInt how) (Int32.ofInt (i : Int)) (Int32.ofInt (x : Int)) (Int32.ofInt (n : Int)) (Int32.ofInt price) = some (Int64.ofInt (c n)) := by
    intro n hn
    rw [hc]
    exact com_e hF hs h (by omega) (by omega) hi hM hn hp hp2
  intro d
  induction d with
  | zero =>
    intro k n hk hn
    cases n with
    | zero => omega
    | succ n =>
      have : k = (rd r 0).toNat - x := hk
      subst this
      rw [f_X11_bestBuy_6]
      simp (disch := omega) only [z_0, z_1, z_2, z_3, z_4, z_5, z_6, z_7, z_8, z_9, z_10, z_11, z_12, z_14, z_18, z_20, z_22, z_24, z_32, z_38, z_40, z_41, z_44, z_48, z_49, z_57, z_59, z_60, z_63, z_65, z_74, z_75, z_81, z_97, z_99, z_104, z_115, z_119, z_122, z_200, z_209, z_210, z_219, z_228, z_255, z_300, z_369, z_999, z_65537, z_268435456, z_1000000000, n_nat, n_add, n_sub, n_mul, n_neg, n_lt, n_le, n_eq, n_ix, n_gd, n_nz, lz_t, bd_some, tn, Int.reduceToNat, tn_1, if_pos, if_neg, if_true, if_false, r0]
  | succ d ih =>
    intro k n hk hn
    cases n with
    | zero => omega
    | succ n =>
      have nx := ih (k + 1) n (by omega) (by omega)
      have mle := minTo_le (if how = 4 then c else fun n => - c n) k
      have c1 := ce (k + 1) (by omega)
      have c2 := ce (minTo (if how = 4 then c else fun n => - c n) k) (by omega)
      have b1 := cb (k + 1) (by omega)
      have b2 := cb (minTo (if how = 4 then c else fun n => - c n) k) (by omega)
      have mE : minTo (if how = 4 then c else fun n => - c n) (k + 1) = if (if how = 4 then c else fun n => - c n) (k + 1) < (if how = 4 then c else fun n => - c n) (minTo (if how = 4 then c else fun n => - c n) k) then k + 1 else minTo (if how = 4 then c else fun n => - c n) k := rfl
      rw [f_X11_bestBuy_6]
      rcases hh with hh | hh
      · subst hh
        rw [if_pos rfl] at *
        generalize minTo c k = m at *
        by_cases q : c (k + 1) < c m
        · rw [if_pos q] at mE
          rw [mE] at nx
          simp (disch := omega) only [z_0, z_1, z_2, z_3, z_4, z_5, z_6, z_7, z_8, z_9, z_10, z_11, z_12, z_14, z_18, z_20, z_22, z_24, z_32, z_38, z_40, z_41, z_44, z_48, z_49, z_57, z_59, z_60, z_63, z_65, z_74, z_75, z_81, z_97, z_99, z_104, z_115, z_119, z_122, z_200, z_209, z_210, z_219, z_228, z_255, z_300, z_369, z_999, z_65537, z_268435456, z_1000000000, n_nat, n_add, n_sub, n_mul, n_neg, n_lt, n_le, n_eq, n_ix, n_gd, n_nz, lz_t, bd_some, tn, Int.reduceToNat, tn_1, if_pos, if_neg, if_true, if_false, r0, c1, c2, y_0, c_ge, f_X11_bestBuy_69, f_X11_bestBuy_73]
          exact nx
        · rw [if_neg q] at mE
          rw [mE] at nx
          simp (disch := omega) only [z_0, z_1, z_2, z_3, z_4, z_5, z_6, z_7, z_8, z_9, z_10, z_11, z_12, z_14, z_18, z_20, z_22, z_24, z_32, z_38, z_40, z_41, z_44, z_48, z_49, z_57, z_59, z_60, z_63, z_65, z_74, z_75, z_81, z_97, z_99, z_104, z_115, z_119, z_122, z_200, z_209, z_210, z_219, z_228, z_255, z_300, z_369, z_999, z_65537, z_268435456, z_1000000000, n_nat, n_add, n_sub, n_mul, n_neg, n_lt, n_le, n_eq, n_ix, n_gd, n_nz, lz_t, bd_some, tn, Int.reduceToNat, tn_1, if_pos, if_neg, if_true, if_false, r0, c1, c2, y_0, c_ge, f_X11_bestBuy_69, f_X11_bestBuy_73]
          exact nx
      · subst hh
        rw [if_neg (c := (5 : Int) = 4) (by omega)] at *
        generalize minTo (fun n => - c n) k = m at *
        by_cases q : c m < c (k + 1)
        · rw [if_pos (by omega)] at mE
          rw [mE] at nx
          simp (disch := omega) only [z_0, z_1, z_2, z_3, z_4, z_5, z_6, z_7, z_8, z_9, z_10, z_11, z_12, z_14, z_18, z_20, z_22, z_24, z_32, z_38, z_40, z_41, z_44, z_48, z_49, z_57, z_59, z_60, z_63, z_65, z_74, z_75, z_81, z_97, z_99, z_104, z_115, z_119, z_122, z_200, z_209, z_210, z_219, z_228, z_255, z_300, z_369, z_999, z_65537, z_268435456, z_1000000000, n_nat, n_add, n_sub, n_mul, n_neg, n_lt, n_le, n_eq, n_ix, n_gd, n_nz, lz_t, bd_some, tn, Int.reduceToNat, tn_1, if_pos, if_neg, if_true, if_false, r0, c1, c2, y_0, c_le, f_X11_bestBuy_69, f_X11_bestBuy_73]
          exact nx
        · rw [if_neg (by omega)] at mE
          rw [mE] at nx
          simp (disch := omega) only [z_0, z_1, z_2, z_3, z_4, z_5, z_6, z_7, z_8, z_9, z_10, z_11, z_12, z_14, z_18, z_20, z_22, z_24, z_32, z_38, z_40, z_41, z_44, z_48, z_49, z_57, z_59, z_60, z_63, z_65, z_74, z_75, z_81, z_97, z_99, z_104, z_115, z_119, z_122, z_200, z_209, z_210, z_219, z_228, z_255, z_300, z_369, z_999, z_65537, z_268435456, z_1000000000, n_nat, n_add, n_sub, n_mul, n_neg, n_lt, n_le, n_eq, n_ix, n_gd, n_nz, lz_t, bd_some, tn, Int.reduceToNat, tn_1, if_pos, if_neg, if_true, if_false, r0, c1, c2, y_0, c_le, f_X11_bestBuy_69, f_X11_bestBuy_73]
          exact nx
theorem bb_e {F : Nat} (hF : 100 ≤ F) {s : MS} {r : Nat → Int32} (hs : s.2.2.1 15 = r) (h : ROK r) {how : Int} (hh : how = 4 ∨ how = 5) {i : Nat} (hi : (i : Int) + 1 < rd r 8) {M : Nat → Int} (hM : ∀ y, y ≤ (rd r 0).toNat → s.2.2.2 27 (41 * (i + 1) + y) = Int64.ofInt (M y)) (hMb : ∀ y, y ≤ (rd r 0).toNat → 0 ≤ M y ∧ M y ≤ Bd ((rd r 8).toNat - 2 - i)) {x : Nat} (hx : x ≤ (rd r 0).toNat) {price : Int} (hp : 0 ≤ price) (hp2 : price ≤ 99) :
    f_X11_bestBuy F s (Int32.ofInt how) (Int32.ofInt (i : Int)) (Int32.ofInt (x : Int)) (Int32.ofInt price) = some (Int32.ofInt ((rN r how i (lvA (if decide (5 ≤ how) then 0 else rd r 4 * Qd ((rd r 8).toNat - 2 - i)) (lg r i) M) (Qd ((rd r 8).toNat - 2 - i)) price x : Nat) : Int)) := by
  obtain ⟨t0, t1, t2, t3, t4, t5, t8, t9⟩ := ROKb h
  have g := bb_go (F := F) hF hs h hh hi hM hMb hx hp hp2 rfl ((rd r 0).toNat - x) 0 F (by omega) (by omega)
  unfold f_X11_bestBuy
  have e : f_X11_bestBuy_6 F s (Int32.ofInt how) (Int32.ofInt (i : Int)) (Int32.ofInt (x : Int)) (Int32.ofInt price) F 0 1 = _ := g
  rw [e]
  unfold rN
  rcases hh with hh | hh
  · subst hh
    rw [if_pos rfl, if_pos rfl]
  · subst hh
    rw [if_neg (c := (5 : Int) = 4) (by omega), if_neg (c := (5 : Int) = 4) (by omega), if_pos rfl]
theorem atP_e {F : Nat} (hF : 100 ≤ F) {s : MS} {r : Nat → Int32} (hs : s.2.2.1 15 = r) (h : ROK r) {how : Int} (hh : 0 ≤ how) (hh2 : how ≤ 9) {i : Nat} (hi : (i : Int) + 1 < rd r 8) {M : Nat → Int} (hM : ∀ y, y ≤ (rd r 0).toNat → s.2.2.2 27 (41 * (i + 1) + y) = Int64.ofInt (M y)) (hMb : ∀ y, y ≤ (rd r 0).toNat → 0 ≤ M y ∧ M y ≤ Bd ((rd r 8).toNat - 2 - i)) {x : Nat} (hx : x ≤ (rd r 0).toNat) {price : Int} (hp : 0 ≤ price) (hp2 : price ≤ 99) :
    f_X11_atPrice F s (Int32.ofInt how) (Int32.ofInt (i : Int)) (Int32.ofInt (x : Int)) (Int32.ofInt price) = some (Int64.ofInt (rP r how i ((rd r 8).toNat - 2 - i) (lvA (if decide (5 ≤ how) then 0 else rd r 4 * Qd ((rd r 8).toNat - 2 - i)) (lg r i) M) price x)) := by
  obtain ⟨t0, t1, t2, t3, t4, t5, t8, t9⟩ := ROKb h
  have nb := rN_b h (how := how) (i := i) (lv := lvA (if decide (5 ≤ how) then 0 else rd r 4 * Qd ((rd r 8).toNat - 2 - i)) (lg r i) M) (tw := Qd ((rd r 8).toNat - 2 - i)) (price := price) hx
  have ce := com_e (F := F) hF hs h hh hh2 hi hM nb hp hp2
  unfold f_X11_atPrice f_X11_atPrice_10 f_X11_atPrice_37 f_X11_atPrice_44 rP
  by_cases c4 : how = 4
  · have be := bb_e (F := F) hF hs h (Or.inl c4) hi hM hMb hx hp hp2
    simp (disch := omega) only [z_0, z_1, z_2, z_3, z_4, z_5, z_6, z_7, z_8, z_9, z_10, z_11, z_12, z_14, z_18, z_20, z_22, z_24, z_32, z_38, z_40, z_41, z_44, z_48, z_49, z_57, z_59, z_60, z_63, z_65, z_74, z_75, z_81, z_97, z_99, z_104, z_115, z_119, z_122, z_200, z_209, z_210, z_219, z_228, z_255, z_300, z_369, z_999, z_65537, z_268435456, z_1000000000, n_nat, n_add, n_sub, n_mul, n_neg, n_lt, n_le, n_eq, n_ix, n_gd, n_nz, lz_t, bd_some, tn, Int.reduceToNat, tn_1, if_pos, if_neg, if_true, if_false, be, ce]
  · by_cases c5 : how = 5
    · have be := bb_e (F := F) hF hs h (Or.inr c5) hi hM hMb hx hp hp2
      simp (disch := omega) only [z_0, z_1, z_2, z_3, z_4, z_5, z_6, z_7, z_8, z_9, z_10, z_11, z_12, z_14, z_18, z_20, z_22, z_24, z_32, z_38, z_40, z_41, z_44, z_48, z_49, z_57, z_59, z_60, z_63, z_65, z_74, z_75, z_81, z_97, z_99, z_104, z_115, z_119, z_122, z_200, z_209, z_210, z_219, z_228, z_255, z_300, z_369, z_999, z_65537, z_268435456, z_1000000000, n_nat, n_add, n_sub, n_mul, n_neg, n_lt, n_le, n_eq, n_ix, n_gd, n_nz, lz_t, bd_some, tn, Int.reduceToNat, tn_1, if_pos, if_neg, if_true, if_false, be, ce]
    · have bb := bo_b (r := r) (rule := if 5 < how then how - 6 else how) (i := i) (has := x) (price := price) (by omega) (by omega)
      have rb := R_bo (F := F) hF hs h (rule := if 5 < how then how - 6 else how) (by split <;> omega) (by split <;> omega) hi (has := (x : Int)) (by omega) (by omega) hp hp2
      have eN : rN r how i (lvA (if decide (5 ≤ how) then 0 else rd r 4 * Qd ((rd r 8).toNat - 2 - i)) (lg r i) M) (Qd ((rd r 8).toNat - 2 - i)) price x = (bo r (if 5 < how then how - 6 else how) i x price).toNat := by
        unfold rN
        rw [if_neg c4, if_neg c5]
      rw [eN] at ce ⊢
      rw [show (((bo r (if 5 < how then how - 6 else how) i x price).toNat : Nat) : Int) = bo r (if 5 < how then how - 6 else how) i x price by omega] at ce
      by_cases c6 : 5 < how
      · rw [if_pos c6] at rb ce ⊢
        have e6 : how - 5 - 1 = how - 6 := by omega
        simp (disch := omega) only [z_0, z_1, z_2, z_3, z_4, z_5, z_6, z_7, z_8, z_9, z_10, z_11, z_12, z_14, z_18, z_20, z_22, z_24, z_32, z_38, z_40, z_41, z_44, z_48, z_49, z_57, z_59, z_60, z_63, z_65, z_74, z_75, z_81, z_97, z_99, z_104, z_115, z_119, z_122, z_200, z_209, z_210, z_219, z_228, z_255, z_300, z_369, z_999, z_65537, z_268435456, z_1000000000, n_nat, n_add, n_sub, n_mul, n_neg, n_lt, n_le, n_eq, n_ix, n_gd, n_nz, lz_t, bd_some, tn, Int.reduceToNat, tn_1, if_pos, if_neg, if_true, if_false, e6, rb, ce]
      · rw [if_neg c6] at rb ce ⊢
        simp (disch := omega) only [z_0, z_1, z_2, z_3, z_4, z_5, z_6, z_7, z_8, z_9, z_10, z_11, z_12, z_14, z_18, z_20, z_22, z_24, z_32, z_38, z_40, z_41, z_44, z_48, z_49, z_57, z_59, z_60, z_63, z_65, z_74, z_75, z_81, z_97, z_99, z_104, z_115, z_119, z_122, z_200, z_209, z_210, z_219, z_228, z_255, z_300, z_369, z_999, z_65537, z_268435456, z_1000000000, n_nat, n_add, n_sub, n_mul, n_neg, n_lt, n_le, n_eq, n_ix, n_gd, n_nz, lz_t, bd_some, tn, Int.reduceToNat, tn_1, if_pos, if_neg, if_true, if_false, rb, ce]
theorem meanAt_e {F : Nat} (hF : 100 ≤ F) {s : MS} {r : Nat → Int32} (hs : s.2.2.1 15 = r) (h : ROK r) {how : Int} (hh : 0 ≤ how) (hh2 : how ≤ 9) {i : Nat} (hi : (i : Int) + 1 < rd r 8) {M : Nat → Int} (hM : ∀ y, y ≤ (rd r 0).toNat → s.2.2.2 27 (41 * (i + 1) + y) = Int64.ofInt (M y)) (hMb : ∀ y, y ≤ (rd r 0).toNat → 0 ≤ M y ∧ M y ≤ Bd ((rd r 8).toNat - 2 - i)) {x : Nat} (hx : x ≤ (rd r 0).toNat) :
    f_X11_meanAt F s (Int32.ofInt how) (Int32.ofInt (i : Int)) (Int32.ofInt (x : Int)) = some (Int64.ofInt (mM1 r how i ((rd r 8).toNat - 2 - i) (lvA (if decide (5 ≤ how) then 0 else rd r 4 * Qd ((rd r 8).toNat - 2 - i)) (lg r i) M) x)) := by
  obtain ⟨t0, t1, t2, t3, t4, t5, t8, t9⟩ := ROKb h
  have rb := rp_b h (i := i) (by omega)
  have db := dr_b h (i := i) (by omega)
  have w1 := (wp_b h (i := i) (by omega)).1
  have pb := pumpB h w1
  have pl := A11_place (F := F) hs h (i := i) (by omega)
  have pp := A11_price (F := F) hs h i (by omega)
  obtain ⟨a1, a2, a3⟩ := A11_pump (F := F) hs w1
  have ap := atP_e (F := F) hF hs h hh hh2 hi hM hMb hx rb.1 rb.2
  have ad := atP_e (F := F) hF hs h hh hh2 hi hM hMb hx db.1 db.2
  have c0 := com_e (F := F) hF hs h hh hh2 hi hM (x := x) (n := 0) hx (price := 0) (by omega) (by omega)
  have c0' : f_X11_comes1 F s (Int32.ofInt how) (Int32.ofInt (i : Int)) (Int32.ofInt (x : Int)) (Int32.ofInt 0) (Int32.ofInt 0) = _ := c0
  have er : rp r i = rd r (11 + 3 * wp r i) := rfl
  unfold f_X11_meanAt f_X11_meanAt_87 mM1
  by_cases c : rp r i = 0
  · simp (disch := omega) only [z_0, z_1, z_2, z_3, z_4, z_5, z_6, z_7, z_8, z_9, z_10, z_11, z_12, z_14, z_18, z_20, z_22, z_24, z_32, z_38, z_40, z_41, z_44, z_48, z_49, z_57, z_59, z_60, z_63, z_65, z_74, z_75, z_81, z_97, z_99, z_104, z_115, z_119, z_122, z_200, z_209, z_210, z_219, z_228, z_255, z_300, z_369, z_999, z_65537, z_268435456, z_1000000000, n_nat, n_add, n_sub, n_mul, n_neg, n_lt, n_le, n_eq, n_ix, n_gd, n_nz, lz_t, bd_some, tn, Int.reduceToNat, tn_1, if_pos, if_neg, if_true, if_false, y_20, m_mul, pl, pp, c0']
  · by_cases k : 0 < rd r (12 + 3 * wp r i)
    · have ed : dr r i = rd r (12 + 3 * wp r i) := by unfold dr; rw [if_pos k]
      rw [ed] at ad ⊢
      rw [er] at ap
      simp (disch := omega) only [z_0, z_1, z_2, z_3, z_4, z_5, z_6, z_7, z_8, z_9, z_10, z_11, z_12, z_14, z_18, z_20, z_22, z_24, z_32, z_38, z_40, z_41, z_44, z_48, z_49, z_57, z_59, z_60, z_63, z_65, z_74, z_75, z_81, z_97, z_99, z_104, z_115, z_119, z_122, z_200, z_209, z_210, z_219, z_228, z_255, z_300, z_369, z_999, z_65537, z_268435456, z_1000000000, n_nat, n_add, n_sub, n_mul, n_neg, n_lt, n_le, n_eq, n_ix, n_gd, n_nz, lz_t, bd_some, tn, Int.reduceToNat, tn_1, if_pos, if_neg, if_true, if_false, y_0, y_1, y_2, y_10, y_20, y_1099511627776, m_add, m_sub, m_mul, m_neg, m_lt, m_le, m_eq, m_of, m_nz, m_to, c_gt, c_ge, c_lt, c_le, c_eq, pl, pp, c0', a1, a2, a3, ap, ad]
      rw [er]
    · have ed : dr r i = rp r i := by unfold dr; rw [if_neg k]
      rw [ed]
      rw [er] at ap
      simp (disch := omega) only [z_0, z_1, z_2, z_3, z_4, z_5, z_6, z_7, z_8, z_9, z_10, z_11, z_12, z_14, z_18, z_20, z_22, z_24, z_32, z_38, z_40, z_41, z_44, z_48, z_49, z_57, z_59, z_60, z_63, z_65, z_74, z_75, z_81, z_97, z_99, z_104, z_115, z_119, z_122, z_200, z_209, z_210, z_219, z_228, z_255, z_300, z_369, z_999, z_65537, z_268435456, z_1000000000, n_nat, n_add, n_sub, n_mul, n_neg, n_lt, n_le, n_eq, n_ix, n_gd, n_nz, lz_t, bd_some, tn, Int.reduceToNat, tn_1, if_pos, if_neg, if_true, if_false, y_0, y_1, y_2, y_10, y_20, y_1099511627776, m_add, m_sub, m_mul, m_neg, m_lt, m_le, m_eq, m_of, m_nz, m_to, c_gt, c_ge, c_lt, c_le, c_eq, pl, pp, c0', a1, a2, a3, ap]
      rw [er]
/-- one row of longs alone is other -/
def FL (s s' : MS) (a : Nat) : Prop := s'.1 = s.1 ∧ s'.2.1 = s.2.1 ∧ s'.2.2.1 = s.2.2.1 ∧ ∀ k, k ≠ a → s'.2.2.2 k = s.2.2.2 k
theorem FL_r (s : MS) (a : Nat) : FL s s a := ⟨rfl, rfl, rfl, fun _ _ => rfl⟩
theorem FL_t {s s' s2 : MS} {a : Nat} (h : FL s s' a) (g : FL s' s2 a) : FL s s2 a := ⟨g.1.trans h.1, g.2.1.trans h.2.1, g.2.2.1.trans h.2.2.1, fun k hk => (g.2.2.2 k hk).trans (h.2.2.2 k hk)⟩
theorem FL_b (s : MS) (a i : Nat) (v : Int64) : FL s (sB s a i v) a := ⟨rfl, rfl, rfl, fun _ hk => uN_n _ _ _ _ hk⟩
theorem FL_KP {s s' : MS} {a : Nat} (h : FL s s' a) : KP s s' := ⟨fun k _ => by rw [h.1], fun k _ => by rw [h.2.2.1]⟩
theorem lm55 {F : Nat} (hF : 100 ≤ F) {r : Nat → Int32} (h : ROK r) {how : Int} (hh : 0 ≤ how) (hh2 : how ≤ 9) {i : Nat} (hi : (i : Int) + 1 < rd r 8) {M : Nat → Int} (hMb : ∀ y, y ≤ (rd r 0).toNat → 0 ≤ M y ∧ M y ≤ Bd ((rd r 8).toNat - 2 - i)) (k49 : Int32 → MS → Option MS) : ∀ (d k n : Nat) (s : MS), k + d = (rd r 0).toNat + 1 → d < n → s.2.2.1 15 = r → (∀ y, y ≤ (rd r 0).toNat → s.2.2.2 27 (41 * (i + 1) + y) = Int64.ofInt (M y)) →
    ∃ s', f_X11_layMeans_55 F (Int32.ofInt how) k49 n (Int32.ofInt (i : Int)) (Int32.ofInt (k : Int)) s = k49 (Int32.ofInt ((i : Int) - 1)) s' ∧ FL s s' 27 ∧ (∀ x, k ≤ x → x ≤ (rd r 0).toNat → s'.2.2.2 27 (41 * i + x) = Int64.ofInt (mM1 r how i ((rd r 8).toNat - 2 - i) (lvA (if decide (5 ≤ how) then 0 else rd r 4 * Qd ((rd r 8).toNat - 2 - i)) (lg r i) M) x)) ∧ (∀ j, (j < 41 * i + k ∨ 41 * i + 41 ≤ j) → s'.2.2.2 27 j = s.2.2.2 27 j) := by
  obtain ⟨t0, t1, t2, t3, t4, t5, t8, t9⟩ := ROKb h
  intro d
  induction d with
  | zero =>
    intro k n s hk hn hs hM
    cases n with
    | zero => omega
    | succ n =>
      have r0 : s.2.2.1 15 0 = Int32.ofInt (rd r 0) := by rw [hs]; exact rd_e r 0
      refine ⟨s, ?_, FL_r s 27, fun x h1 h2 => by omega, fun _ _ => rfl⟩
      rw [f_X11_layMeans_55]
      simp (disch := omega) only [z_0, z_1, z_2, z_3, z_4, z_5, z_6, z_7, z_8, z_9, z_10, z_11, z_12, z_14, z_18, z_20, z_22, z_24, z_32, z_38, z_40, z_41, z_44, z_48, z_49, z_57, z_59, z_60, z_63, z_65, z_74, z_75, z_81, z_97, z_99, z_104, z_115, z_119, z_122, z_200, z_209, z_210, z_219, z_228, z_255, z_300, z_369, z_999, z_65537, z_268435456, z_1000000000, n_nat, n_add, n_sub, n_mul, n_neg, n_lt, n_le, n_eq, n_ix, n_gd, n_nz, lz_t, bd_some, tn, Int.reduceToNat, tn_1, if_pos, if_neg, if_true, if_false, r0, f_X11_layMeans_89]
      rw [Int.sub_eq_add_neg]
  | succ d ih =>
    intro k n s hk hn hs hM
    cases n with
    | zero => omega
    | succ n =>
      have r0 : s.2.2.1 15 0 = Int32.ofInt (rd r 0) := by rw [hs]; exact rd_e r 0
      have ma := meanAt_e (F := F) hF hs h hh hh2 hi hM hMb (x := k) (by omega)
      obtain ⟨s', z1, z2, z3, z4⟩ := ih (k + 1) n (sB s 27 (41 * i + k) (Int64.ofInt (mM1 r how i ((rd r 8).toNat - 2 - i) (lvA (if decide (5 ≤ how) then 0 else rd r 4 * Qd ((rd r 8).toNat - 2 - i)) (lg r i) M) k))) (by omega) (by omega) hs (by
        intro y hy
        simp (disch := omega) only [sI_a, sI_b, sL_a, sL_b, sL_c, wA_a, wA_b, wA_c, wA_d, wB_a, wB_b, wB_c, wB_d, sA_w, sB_w, uN_s, uN_n, up_s, up_n, ul_s, ul_n, p_fst, p_snd]
        exact hM y hy)
      refine ⟨s', ?_, FL_t (FL_b _ _ _ _) z2, ?_, ?_⟩
      · rw [f_X11_layMeans_55]
        simp (disch := omega) only [z_0, z_1, z_2, z_3, z_4, z_5, z_6, z_7, z_8, z_9, z_10, z_11, z_12, z_14, z_18, z_20, z_22, z_24, z_32, z_38, z_40, z_41, z_44, z_48, z_49, z_57, z_59, z_60, z_63, z_65, z_74, z_75, z_81, z_97, z_99, z_104, z_115, z_119, z_122, z_200, z_209, z_210, z_219, z_228, z_255, z_300, z_369, z_999, z_65537, z_268435456, z_1000000000, n_nat, n_add, n_sub, n_mul, n_neg, n_lt, n_le, n_eq, n_ix, n_gd, n_nz, lz_t, bd_some, tn, Int.reduceToNat, tn_1, if_pos, if_neg, if_true, if_false, r0, ma, tn_41]
        exact z1
      · intro x h1 h2
        by_cases e : x = k
        · subst e
          rw [z4 _ (by omega)]
          simp (disch := omega) only [sI_a, sI_b, sL_a, sL_b, sL_c, wA_a, wA_b, wA_c, wA_d, wB_a, wB_b, wB_c, wB_d, sA_w, sB_w, uN_s, uN_n, up_s, up_n, ul_s, ul_n, p_fst, p_snd]
        · exact z3 x (by omega) h2
      · intro j hj
        rw [z4 j (by omega)]
        simp (disch := omega) only [sI_a, sI_b, sL_a, sL_b, sL_c, wA_a, wA_b, wA_c, wA_d, wB_a, wB_b, wB_c, wB_d, sA_w, sB_w, uN_s, uN_n, up_s, up_n, ul_s, ul_n, p_fst, p_snd]
def lmI (r : Nat → Int32) (how : Int) (e : Nat) (s : MS) : Prop := ∀ i : Nat, e ≤ i → (i : Int) < rd r 8 → ∀ x, x ≤ (rd r 0).toNat → s.2.2.2 27 (41 * i + x) = Int64.ofInt (mM r how ((rd r 8).toNat - 1 - i) x)
theorem lm49 {F : Nat} (hF : 100 ≤ F) {r : Nat → Int32} (h : ROK r) {how : Int} (hh : 0 ≤ how) (hh2 : how ≤ 9) : ∀ (e n : Nat) (s : MS), (e : Int) < rd r 8 → e < n → s.2.2.1 15 = r → lmI r how e s →
    ∃ s', f_X11_layMeans_49 F (Int32.ofInt how) n (Int32.ofInt ((e : Int) - 1)) s = some s' ∧ FL s s' 27 ∧ lmI r how 0 s' := by
  obtain ⟨t0, t1, t2, t3, t4, t5, t8, t9⟩ := ROKb h
  intro e
  induction e with
  | zero =>
    intro n s he hn hs hI
    cases n with
    | zero => omega
    | succ n =>
      refine ⟨s, ?_, FL_r s 27, hI⟩
      rw [f_X11_layMeans_49]
      simp (disch := omega) only [z_0, z_1, z_2, z_3, z_4, z_5, z_6, z_7, z_8, z_9, z_10, z_11, z_12, z_14, z_18, z_20, z_22, z_24, z_32, z_38, z_40, z_41, z_44, z_48, z_49, z_57, z_59, z_60, z_63, z_65, z_74, z_75, z_81, z_97, z_99, z_104, z_115, z_119, z_122, z_200, z_209, z_210, z_219, z_228, z_255, z_300, z_369, z_999, z_65537, z_268435456, z_1000000000, n_nat, n_add, n_sub, n_mul, n_neg, n_lt, n_le, n_eq, n_ix, n_gd, n_nz, lz_t, bd_some, tn, Int.reduceToNat, tn_1, if_pos, if_neg, if_true, if_false]
  | succ e ih =>
    intro n s he hn hs hI
    cases n with
    | zero => omega
    | succ n =>
      have e1 : ((e + 1 : Nat) : Int) - 1 = e := by omega
      have hd : (rd r 8).toNat - 1 - e = ((rd r 8).toNat - 2 - e) + 1 := by omega
      have hd2 : (rd r 8).toNat - 1 - (e + 1) = (rd r 8).toNat - 2 - e := by omega
      have hi : (rd r 8).toNat - 2 - ((rd r 8).toNat - 2 - e) = e := by omega
      have row := hI (e + 1) (Nat.le_refl _) he
      rw [hd2] at row
      obtain ⟨s', z1, z2, z3, z4⟩ := lm55 (F := F) hF h hh hh2 (i := e) (by omega) (mM_b h how ((rd r 8).toNat - 2 - e) (by omega)) (f_X11_layMeans_49 F (Int32.ofInt how) n) ((rd r 0).toNat + 1) 0 F s (by omega) (by omega) hs row
      have hs' : s'.2.2.1 15 = r := by rw [z2.2.2.1]; exact hs
      obtain ⟨s2, y1, y2, y3⟩ := ih n s' (by omega) (by omega) hs' (by
        intro i hi1 hi2 x hx
        by_cases ei : i = e
        · subst ei
          rw [z3 x (by omega) hx, hd, mM_s]
          unfold rLv
          rw [hi]
        · rw [z4 _ (by omega)]
          exact hI i (by omega) hi2 x hx)
      refine ⟨s2, ?_, FL_t z2 y2, y3⟩
      rw [f_X11_layMeans_49, e1]
      simp (disch := omega) only [z_0, z_1, z_2, z_3, z_4, z_5, z_6, z_7, z_8, z_9, z_10, z_11, z_12, z_14, z_18, z_20, z_22, z_24, z_32, z_38, z_40, z_41, z_44, z_48, z_49, z_57, z_59, z_60, z_63, z_65, z_74, z_75, z_81, z_97, z_99, z_104, z_115, z_119, z_122, z_200, z_209, z_210, z_219, z_228, z_255, z_300, z_369, z_999, z_65537, z_268435456, z_1000000000, n_nat, n_add, n_sub, n_mul, n_neg, n_lt, n_le, n_eq, n_ix, n_gd, n_nz, lz_t, bd_some, tn, Int.reduceToNat, tn_1, if_pos, if_neg, if_true, if_false]
      rw [← y1]
      exact z1
theorem lm2 {F : Nat} (hF : 100 ≤ F) {r : Nat → Int32} (h : ROK r) {how : Int} (hh : 0 ≤ how) (hh2 : how ≤ 9) : ∀ (d k n : Nat) (s : MS), k + d = (rd r 0).toNat + 1 → d < n → s.2.2.1 15 = r → (∀ x, x < k → s.2.2.2 27 (41 * ((rd r 8).toNat - 1) + x) = Int64.ofInt (mM r how 0 x)) →
    ∃ s', f_X11_layMeans_2 F (Int32.ofInt how) n (Int32.ofInt (k : Int)) s = some s' ∧ FL s s' 27 ∧ lmI r how 0 s' := by
  obtain ⟨t0, t1, t2, t3, t4, t5, t8, t9⟩ := ROKb h
  intro d
  induction d with
  | zero =>
    intro k n s hk hn hs hI
    cases n with
    | zero => omega
    | succ n =>
      have r0 : s.2.2.1 15 0 = Int32.ofInt (rd r 0) := by rw [hs]; exact rd_e r 0
      obtain ⟨s', y1, y2, y3⟩ := lm49 (F := F) hF h hh hh2 ((rd r 8).toNat - 1) F s (by omega) (by omega) hs (by
        intro i hi1 hi2 x hx
        have : i = (rd r 8).toNat - 1 := by omega
        subst this
        rw [hI x (by omega), Nat.sub_self])
      refine ⟨s', ?_, y2, y3⟩
      rw [f_X11_layMeans_2]
      have e1 : (((rd r 8).toNat - 1 : Nat) : Int) - 1 = rd r 8 - 1 - 1 := by omega
      rw [e1] at y1
      simp (disch := omega) only [z_0, z_1, z_2, z_3, z_4, z_5, z_6, z_7, z_8, z_9, z_10, z_11, z_12, z_14, z_18, z_20, z_22, z_24, z_32, z_38, z_40, z_41, z_44, z_48, z_49, z_57, z_59, z_60, z_63, z_65, z_74, z_75, z_81, z_97, z_99, z_104, z_115, z_119, z_122, z_200, z_209, z_210, z_219, z_228, z_255, z_300, z_369, z_999, z_65537, z_268435456, z_1000000000, n_nat, n_add, n_sub, n_mul, n_neg, n_lt, n_le, n_eq, n_ix, n_gd, n_nz, lz_t, bd_some, tn, Int.reduceToNat, tn_1, if_pos, if_neg, if_true, if_false, r0, f_X11_layMeans_42, A11_last hs h]
      exact y1
  | succ d ih =>
    intro k n s hk hn hs hI
    cases n with
    | zero => omega
    | succ n =>
      have r0 : s.2.2.1 15 0 = Int32.ofInt (rd r 0) := by rw [hs]; exact rd_e r 0
      have e41 : (41 * (rd r 8 - 1) + (k : Int)).toNat = 41 * ((rd r 8).toNat - 1) + k := by omega
      obtain ⟨s', y1, y2, y3⟩ := ih (k + 1) n (sB s 27 (41 * ((rd r 8).toNat - 1) + k) (Int64.ofInt (mM r how 0 k))) (by omega) (by omega) hs (by
        intro x hx
        by_cases e : x = k
        · subst e
          simp (disch := omega) only [sI_a, sI_b, sL_a, sL_b, sL_c, wA_a, wA_b, wA_c, wA_d, wB_a, wB_b, wB_c, wB_d, sA_w, sB_w, uN_s, uN_n, up_s, up_n, ul_s, ul_n, p_fst, p_snd]
        · simp (disch := omega) only [sI_a, sI_b, sL_a, sL_b, sL_c, wA_a, wA_b, wA_c, wA_d, wB_a, wB_b, wB_c, wB_d, sA_w, sB_w, uN_s, uN_n, up_s, up_n, ul_s, ul_n, p_fst, p_snd]
          exact hI x (by omega))
      refine ⟨s', ?_, FL_t (FL_b _ _ _ _) y2, y3⟩
      rw [f_X11_layMeans_2]
      rw [mM_z] at y1
      by_cases c : 5 ≤ how
      · rw [if_pos c] at y1
        simp (disch := omega) only [z_0, z_1, z_2, z_3, z_4, z_5, z_6, z_7, z_8, z_9, z_10, z_11, z_12, z_14, z_18, z_20, z_22, z_24, z_32, z_38, z_40, z_41, z_44, z_48, z_49, z_57, z_59, z_60, z_63, z_65, z_74, z_75, z_81, z_97, z_99, z_104, z_115, z_119, z_122, z_200, z_209, z_210, z_219, z_228, z_255, z_300, z_369, z_999, z_65537, z_268435456, z_1000000000, n_nat, n_add, n_sub, n_mul, n_neg, n_lt, n_le, n_eq, n_ix, n_gd, n_nz, lz_t, bd_some, tn, Int.reduceToNat, tn_1, if_pos, if_neg, if_true, if_false, r0, y_0, y_1, f_X11_layMeans_35, A11_last hs h, e41]
        exact y1
      · rw [if_neg c] at y1
        simp (disch := omega) only [z_0, z_1, z_2, z_3, z_4, z_5, z_6, z_7, z_8, z_9, z_10, z_11, z_12, z_14, z_18, z_20, z_22, z_24, z_32, z_38, z_40, z_41, z_44, z_48, z_49, z_57, z_59, z_60, z_63, z_65, z_74, z_75, z_81, z_97, z_99, z_104, z_115, z_119, z_122, z_200, z_209, z_210, z_219, z_228, z_255, z_300, z_369, z_999, z_65537, z_268435456, z_1000000000, n_nat, n_add, n_sub, n_mul, n_neg, n_lt, n_le, n_eq, n_ix, n_gd, n_nz, lz_t, bd_some, tn, Int.reduceToNat, tn_1, if_pos, if_neg, if_true, if_false, r0, y_0, y_1, f_X11_layMeans_35, A11_last hs h, e41]
        exact y1
theorem lm_e {F : Nat} (hF : 100 ≤ F) {r : Nat → Int32} (h : ROK r) {how : Int} (hh : 0 ≤ how) (hh2 : how ≤ 9) (s : MS) (hs : s.2.2.1 15 = r) :
    ∃ s', f_X11_layMeans F (Int32.ofInt how) s = some s' ∧ FL s s' 27 ∧ lmI r how 0 s' := by
  obtain ⟨t0, t1, t2, t3, t4, t5, t8, t9⟩ := ROKb h
  exact lm2 hF h hh hh2 ((rd r 0).toNat + 1) 0 F s (by omega) (by omega) hs (by intro x hx; omega)
