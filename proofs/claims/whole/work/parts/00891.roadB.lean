/-! a road that is begun: all is cleared -/
theorem sI_z {s : MS} {n : Nat} (h : ∀ k, k < n → s.1 k = 0) : ∀ k, k < n + 1 → (sI s n 0).1 k = 0 := fun k hk => by
  by_cases c : k = n
  · subst c
    exact sI_s _ _ _
  · rw [sI_n _ _ _ _ c]
    exact h k (by omega)
theorem wA_g (s : MS) (k j : Nat) (g : Nat → Int32) (h : j ≠ k) : (wA s k g).2.2.1 j = s.2.2.1 j := uN_n _ _ _ _ h
theorem wA_e (s : MS) (k : Nat) (g : Nat → Int32) : (wA s k g).2.2.1 k = g := uN_s _ _ _
theorem clear_e {F : Nat} (hF : 1001 ≤ F) (s : MS) : ∃ s', f_X9_clear F s = some s' ∧ (∀ k, k < 10 → s'.1 k = 0) ∧ (∀ k, k < 81 → s'.2.2.1 10 k = 0) ∧ (∀ k, k < 81 → s'.2.2.1 11 k = 0) ∧ (∀ k, k < 9 → s'.2.2.1 12 k = 0 ∧ s'.2.2.1 13 k = 0 ∧ s'.2.2.1 14 k = 0) := by
  obtain ⟨S, hS1, hS2, hS⟩ : ∃ S : MS, (∀ k, k < 10 → S.1 k = 0) ∧ S.2 = s.2 ∧ f_X9_clear F s = (bd (f_J7_fill_53178 F 81 (0 : Int32) (S.2.2.1 10)) fun o11 => lz (wA S 10 o11) fun s12 => bd (f_J7_fill_53178 F 81 (0 : Int32) (s12.2.2.1 11)) fun o13 => lz (wA s12 11 o13) fun s14 => bd (f_J7_fill_53178 F 9 (0 : Int32) (s14.2.2.1 12)) fun o15 => lz (wA s14 12 o15) fun s16 => bd (f_J7_fill_53178 F 9 (0 : Int32) (s16.2.2.1 13)) fun o17 => lz (wA s16 13 o17) fun s18 => bd (f_J7_fill_53178 F 9 (0 : Int32) (s18.2.2.1 14)) fun o19 => lz (wA s18 14 o19) fun s20 => some s20) :=
    ⟨sI (sI (sI (sI (sI (sI (sI (sI (sI (sI s 0 0) 1 0) 2 0) 3 0) 4 0) 5 0) 6 0) 7 0) 8 0) 9 0, sI_z (sI_z (sI_z (sI_z (sI_z (sI_z (sI_z (sI_z (sI_z (sI_z (fun k hk => by omega)))))))))), rfl, rfl⟩
  obtain ⟨g0, a0, b0, -⟩ := fillI (F := F) 81 (by omega) hF 0 (S.2.2.1 10)
  obtain ⟨g1, a1, b1, -⟩ := fillI (F := F) 81 (by omega) hF 0 ((wA S 10 g0).2.2.1 11)
  obtain ⟨g2, a2, b2, -⟩ := fillI (F := F) 9 (by omega) hF 0 ((wA (wA S 10 g0) 11 g1).2.2.1 12)
  obtain ⟨g3, a3, b3, -⟩ := fillI (F := F) 9 (by omega) hF 0 ((wA (wA (wA S 10 g0) 11 g1) 12 g2).2.2.1 13)
  obtain ⟨g4, a4, b4, -⟩ := fillI (F := F) 9 (by omega) hF 0 ((wA (wA (wA (wA S 10 g0) 11 g1) 12 g2) 13 g3).2.2.1 14)
  refine ⟨wA (wA (wA (wA (wA S 10 g0) 11 g1) 12 g2) 13 g3) 14 g4, ?_, hS1, ?_, ?_, ?_⟩
  · rw [hS, a0, bd_some, lz_t, a1, bd_some, lz_t, a2, bd_some, lz_t, a3, bd_some, lz_t, a4, bd_some, lz_t]
  · rw [wA_g _ _ _ _ (by decide), wA_g _ _ _ _ (by decide), wA_g _ _ _ _ (by decide), wA_g _ _ _ _ (by decide), wA_e]
    exact b0
  · rw [wA_g _ _ _ _ (by decide), wA_g _ _ _ _ (by decide), wA_g _ _ _ _ (by decide), wA_e]
    exact b1
  · intro k hk
    exact ⟨b2 k hk, b3 k hk, b4 k hk⟩
theorem clr_go {F : Nat} {p : Int32} : ∀ (d k n : Nat) (s : MS), k + d = 300 → d < n → (∀ j, j < k → s.2.2.1 16 j = 0) →
    ∃ g, f_X11_road_39 F p n (Int32.ofInt (k : Int)) s = f_X11_road_59 F p (wA s 16 g) ∧ (∀ j, j < 300 → g j = 0) := by
  intro d
  induction d with
  | zero =>
    intro k n s hk hn h
    cases n with
    | zero => omega
    | succ n =>
      refine ⟨s.2.2.1 16, ?_, fun j hj => h j (by omega)⟩
      rw [wA_id, f_X11_road_39]
      simp (disch := omega) only [z_0, z_1, z_2, z_3, z_4, z_5, z_6, z_7, z_8, z_9, z_10, z_11, z_12, z_14, z_18, z_20, z_22, z_24, z_32, z_38, z_40, z_41, z_44, z_48, z_49, z_57, z_59, z_60, z_63, z_65, z_74, z_75, z_81, z_97, z_99, z_104, z_115, z_119, z_122, z_200, z_209, z_210, z_219, z_228, z_255, z_300, z_369, z_999, z_65537, z_268435456, z_1000000000, n_nat, n_add, n_sub, n_mul, n_neg, n_lt, n_le, n_eq, n_ix, n_gd, n_nz, lz_t, bd_some, tn, Int.reduceToNat, tn_1, if_pos, if_neg, if_true, if_false]
  | succ d ih =>
    intro k n s hk hn h
    cases n with
    | zero => omega
    | succ n =>
      obtain ⟨g, z1, z2⟩ := ih (k + 1) n (sA s 16 k 0) (by omega) (by omega) (fun j hj => by
        rw [sA_u]
        by_cases c : j = k
        · subst c
          exact up_s _ _ _
        · rw [up_n _ _ _ _ c]
          exact h j (by omega))
      refine ⟨g, ?_, z2⟩
      rw [sA_w, wA_wA] at z1
      rw [← z1, f_X11_road_39]
      simp (disch := omega) only [z_0, z_1, z_2, z_3, z_4, z_5, z_6, z_7, z_8, z_9, z_10, z_11, z_12, z_14, z_18, z_20, z_22, z_24, z_32, z_38, z_40, z_41, z_44, z_48, z_49, z_57, z_59, z_60, z_63, z_65, z_74, z_75, z_81, z_97, z_99, z_104, z_115, z_119, z_122, z_200, z_209, z_210, z_219, z_228, z_255, z_300, z_369, z_999, z_65537, z_268435456, z_1000000000, n_nat, n_add, n_sub, n_mul, n_neg, n_lt, n_le, n_eq, n_ix, n_gd, n_nz, lz_t, bd_some, tn, Int.reduceToNat, tn_1, if_pos, if_neg, if_true, if_false]
      rfl
theorem c17_go {F : Nat} {p : Int32} : ∀ (d k n : Nat) (s : MS), k + d = 9 → d < n → (∀ j, j < k → s.2.2.1 17 j = 0) →
    ∃ g, f_X11_road_195 F p n (Int32.ofInt (k : Int)) s = f_X11_road_214 F p (wA s 17 g) ∧ (∀ j, j < 9 → g j = 0) := by
  intro d
  induction d with
  | zero =>
    intro k n s hk hn h
    cases n with
    | zero => omega
    | succ n =>
      refine ⟨s.2.2.1 17, ?_, fun j hj => h j (by omega)⟩
      rw [wA_id, f_X11_road_195]
      simp (disch := omega) only [z_0, z_1, z_2, z_3, z_4, z_5, z_6, z_7, z_8, z_9, z_10, z_11, z_12, z_14, z_18, z_20, z_22, z_24, z_32, z_38, z_40, z_41, z_44, z_48, z_49, z_57, z_59, z_60, z_63, z_65, z_74, z_75, z_81, z_97, z_99, z_104, z_115, z_119, z_122, z_200, z_209, z_210, z_219, z_228, z_255, z_300, z_369, z_999, z_65537, z_268435456, z_1000000000, n_nat, n_add, n_sub, n_mul, n_neg, n_lt, n_le, n_eq, n_ix, n_gd, n_nz, lz_t, bd_some, tn, Int.reduceToNat, tn_1, if_pos, if_neg, if_true, if_false]
  | succ d ih =>
    intro k n s hk hn h
    cases n with
    | zero => omega
    | succ n =>
      obtain ⟨g, z1, z2⟩ := ih (k + 1) n (sA s 17 k 0) (by omega) (by omega) (fun j hj => by
        rw [sA_u]
        by_cases c : j = k
        · subst c
          exact up_s _ _ _
        · rw [up_n _ _ _ _ c]
          exact h j (by omega))
      refine ⟨g, ?_, z2⟩
      rw [sA_w, wA_wA] at z1
      rw [← z1, f_X11_road_195]
      simp (disch := omega) only [z_0, z_1, z_2, z_3, z_4, z_5, z_6, z_7, z_8, z_9, z_10, z_11, z_12, z_14, z_18, z_20, z_22, z_24, z_32, z_38, z_40, z_41, z_44, z_48, z_49, z_57, z_59, z_60, z_63, z_65, z_74, z_75, z_81, z_97, z_99, z_104, z_115, z_119, z_122, z_200, z_209, z_210, z_219, z_228, z_255, z_300, z_369, z_999, z_65537, z_268435456, z_1000000000, n_nat, n_add, n_sub, n_mul, n_neg, n_lt, n_le, n_eq, n_ix, n_gd, n_nz, lz_t, bd_some, tn, Int.reduceToNat, tn_1, if_pos, if_neg, if_true, if_false]
      rfl
theorem c18_go {F : Nat} {p : Int32} : ∀ (d k n : Nat) (s : MS), k + d = 7 → d < n → (∀ j, j < k → s.2.2.1 18 j = 0) →
    ∃ g, f_X11_road_216 F p n (Int32.ofInt (k : Int)) s = f_X11_road_235 F p (wA s 18 g) ∧ (∀ j, j < 7 → g j = 0) := by
  intro d
  induction d with
  | zero =>
    intro k n s hk hn h
    cases n with
    | zero => omega
    | succ n =>
      refine ⟨s.2.2.1 18, ?_, fun j hj => h j (by omega)⟩
      rw [wA_id, f_X11_road_216]
      simp (disch := omega) only [z_0, z_1, z_2, z_3, z_4, z_5, z_6, z_7, z_8, z_9, z_10, z_11, z_12, z_14, z_18, z_20, z_22, z_24, z_32, z_38, z_40, z_41, z_44, z_48, z_49, z_57, z_59, z_60, z_63, z_65, z_74, z_75, z_81, z_97, z_99, z_104, z_115, z_119, z_122, z_200, z_209, z_210, z_219, z_228, z_255, z_300, z_369, z_999, z_65537, z_268435456, z_1000000000, n_nat, n_add, n_sub, n_mul, n_neg, n_lt, n_le, n_eq, n_ix, n_gd, n_nz, lz_t, bd_some, tn, Int.reduceToNat, tn_1, if_pos, if_neg, if_true, if_false]
  | succ d ih =>
    intro k n s hk hn h
    cases n with
    | zero => omega
    | succ n =>
      obtain ⟨g, z1, z2⟩ := ih (k + 1) n (sA s 18 k 0) (by omega) (by omega) (fun j hj => by
        rw [sA_u]
        by_cases c : j = k
        · subst c
          exact up_s _ _ _
        · rw [up_n _ _ _ _ c]
          exact h j (by omega))
      refine ⟨g, ?_, z2⟩
      rw [sA_w, wA_wA] at z1
      rw [← z1, f_X11_road_216]
      simp (disch := omega) only [z_0, z_1, z_2, z_3, z_4, z_5, z_6, z_7, z_8, z_9, z_10, z_11, z_12, z_14, z_18, z_20, z_22, z_24, z_32, z_38, z_40, z_41, z_44, z_48, z_49, z_57, z_59, z_60, z_63, z_65, z_74, z_75, z_81, z_97, z_99, z_104, z_115, z_119, z_122, z_200, z_209, z_210, z_219, z_228, z_255, z_300, z_369, z_999, z_65537, z_268435456, z_1000000000, n_nat, n_add, n_sub, n_mul, n_neg, n_lt, n_le, n_eq, n_ix, n_gd, n_nz, lz_t, bd_some, tn, Int.reduceToNat, tn_1, if_pos, if_neg, if_true, if_false]
      rfl
theorem cpA_go {F : Nat} {f : Nat → Int32} : ∀ (d k n : Nat) (g : Nat → Int32), k + d = 300 → d < n → ∃ g', f_X11_copy_3 F 300 f 300 (Int32.ofInt 0) (Int32.ofInt 0) (Int32.ofInt 300) n (Int32.ofInt (k : Int)) g = some g' ∧ (∀ j, k ≤ j → j < 300 → g' j = f j) ∧ (∀ j, (j < k ∨ 300 ≤ j) → g' j = g j) := by
  intro d
  induction d with
  | zero =>
    intro k n g hk hn
    cases n with
    | zero => omega
    | succ n =>
      refine ⟨g, ?_, fun j h1 h2 => by omega, fun _ _ => rfl⟩
      rw [f_X11_copy_3]
      simp (disch := omega) only [z_0, z_1, z_2, z_3, z_4, z_5, z_6, z_7, z_8, z_9, z_10, z_11, z_12, z_14, z_18, z_20, z_22, z_24, z_32, z_38, z_40, z_41, z_44, z_48, z_49, z_57, z_59, z_60, z_63, z_65, z_74, z_75, z_81, z_97, z_99, z_104, z_115, z_119, z_122, z_200, z_209, z_210, z_219, z_228, z_255, z_300, z_369, z_999, z_65537, z_268435456, z_1000000000, n_nat, n_add, n_sub, n_mul, n_neg, n_lt, n_le, n_eq, n_ix, n_gd, n_nz, lz_t, bd_some, tn, Int.reduceToNat, tn_1, if_pos, if_neg, if_true, if_false]
  | succ d ih =>
    intro k n g hk hn
    cases n with
    | zero => omega
    | succ n =>
      obtain ⟨g', z1, z2, z3⟩ := ih (k + 1) n (upd g k (f k)) (by omega) (by omega)
      have ea : ((0 : Int) + (k : Int)).toNat = k := by omega
      refine ⟨g', ?_, ?_, ?_⟩
      · rw [f_X11_copy_3]
        simp (disch := omega) only [z_0, z_1, z_2, z_3, z_4, z_5, z_6, z_7, z_8, z_9, z_10, z_11, z_12, z_14, z_18, z_20, z_22, z_24, z_32, z_38, z_40, z_41, z_44, z_48, z_49, z_57, z_59, z_60, z_63, z_65, z_74, z_75, z_81, z_97, z_99, z_104, z_115, z_119, z_122, z_200, z_209, z_210, z_219, z_228, z_255, z_300, z_369, z_999, z_65537, z_268435456, z_1000000000, n_nat, n_add, n_sub, n_mul, n_neg, n_lt, n_le, n_eq, n_ix, n_gd, n_nz, lz_t, bd_some, tn, Int.reduceToNat, tn_1, if_pos, if_neg, if_true, if_false, ea]
        exact z1
      · intro j h1 h2
        by_cases e : j = k
        · subst e
          rw [z3 _ (by omega), up_s]
        · exact z2 j (by omega) h2
      · intro j hj
        rw [z3 j (by omega), up_n _ _ _ _ (by omega)]
theorem PK_0 {g : Nat → Int32} (h : ∀ j, j < 300 → g j = 0) : PK g := by
  have t : ∀ j, j < 300 → (g j).toInt = 0 := fun j hj => by rw [h j hj]; rfl
  have t5 := t 5 (by omega)
  have t6 := t 6 (by omega)
  have t7 := t 7 (by omega)
  have t8 := t 8 (by omega)
  have t9 := t 9 (by omega)
  refine ⟨Or.inl ⟨h 10 (by omega), fun k hk => h k (by omega)⟩, ⟨by omega, by omega, by omega, by omega, by omega⟩, ?_, ?_, ?_, ⟨fun i hi => by omega, fun i hi => by omega⟩, fun i hi => by omega⟩
  · intro a b ha hb
    have e := t (38 + (9 * a + b)) (by omega)
    exact ⟨by omega, by omega, by rw [h _ (by omega), h _ (by omega)], fun _ => e⟩
  · intro k hk
    have e := t (119 + k) (by omega)
    exact ⟨by omega, by omega⟩
  · intro q hq
    have e1 := t (11 + 3 * q) (by omega)
    have e2 := t (12 + 3 * q) (by omega)
    have e3 := t (13 + 3 * q) (by omega)
    exact ⟨by omega, by omega, by omega, fun _ => h _ (by omega)⟩
theorem RP_0 {g : Nat → Int32} {s : MS} (h : ∀ j, j < 300 → g j = 0) (c2 : ∀ k, k < 10 → s.1 k = 0) (c3 : ∀ k, k < 81 → s.2.2.1 10 k = 0) (c4 : ∀ k, k < 81 → s.2.2.1 11 k = 0) (c5 : ∀ k, k < 9 → s.2.2.1 12 k = 0 ∧ s.2.2.1 13 k = 0 ∧ s.2.2.1 14 k = 0) : RP s g := by
  have t : ∀ j, j < 300 → (g j).toInt = 0 := fun j hj => by rw [h j hj]; rfl
  have t8 := t 8 (by omega)
  have t9 := t 9 (by omega)
  refine ⟨fun k hk => ?_, fun k hk => ?_, fun k hk => ?_, fun q hq => ?_, fun i hi => by omega, fun hi => by omega, fun i hi => by omega, fun i hi => by omega⟩
  · rw [c2 k hk, h k (by omega)]
  · rw [c3 k hk, h _ (by omega)]
  · rw [c4 k hk, h _ (by omega)]
  · rw [(c5 q hq).1, (c5 q hq).2.1, (c5 q hq).2.2, h _ (by omega), h _ (by omega), h _ (by omega)]
    exact ⟨rfl, rfl, rfl⟩
theorem road_st {F : Nat} (hF : 1001 ≤ F) {f : Nat → Int32} {e : Nat} {sRd sSp sMo : MS} (he : e ≤ 800) (hT : TPR f sMo e) (h13 : sMo.1 13 = 0) (h9 : sMo.1 9 = 0) : RDY F (Int32.ofInt (e : Int)) (f_X7_readRoad F 800 f (Int32.ofInt (e : Int)) sRd sSp) (f_X11_road_39 F (Int32.ofInt (e : Int)) F 0 sMo) (sI sMo 3 (Int32.ofInt (e : Int))) := by
  obtain ⟨g, z1, z2⟩ := clr_go (F := F) (p := Int32.ofInt (e : Int)) 300 0 F sMo (by omega) (by omega) (fun j hj => by omega)
  have z1' : f_X11_road_39 F (Int32.ofInt (e : Int)) F 0 sMo = _ := z1
  obtain ⟨s', c1, c2, c3, c4, c5⟩ := clear_e hF sSp
  rw [z1']
  unfold f_X11_road_59 f_X7_readRoad
  rw [lz_t, lz_t, lz_t, c1, bd_some, lz_t, lz_t, lz_t]
  have Z : RZ f e (sI (sI (sI (sI sRd 3 (Int32.ofInt (e : Int))) 0 0) 1 (-1)) 7 0) (sI (sI (wA sMo 16 g) 3 (Int32.ofInt (e : Int))) 5 0) := ⟨he, rfl, rfl, TPR_f hT rfl⟩
  obtain ⟨R1, M1, q1, q2, q3, q4, q5⟩ := P_next (F := F) (by omega) Z (Lb := 0) (b := 0) (Nat.le_refl 0) (Nat.zero_le _) rfl rfl
  rw [q1, q2, bd_some, bd_some]
  have e16 : M1.2.2.1 16 = g := by
    rw [q5.2 16 (by decide)]
    exact wA_e _ _ _
  have G : GD f e 0 R1 s' M1 := by
    refine ⟨RZ_f Z (FRd_w q4) q5, q3, (q5.1 13 (by omega)).trans h13, (q5.1 9 (by omega)).trans h9, (q4.1 0 (by omega)).trans rfl, (q4.1 1 (by omega)).trans rfl, ?_, ?_, ?_⟩
    · rw [e16]; exact PK_0 z2
    · rw [e16]; exact RP_0 z2 c2 c3 c4 c5
    · rw [e16]
      intro n hn
      rw [z2 5 (by omega)] at hn
      have h0 : (0 : Int32).toInt = 0 := rfl
      omega
  refine road_go (by omega) (e + 1) 0 F F R1 s' M1 (by omega) (by omega) (by omega) G ?_
  refine FX_t (s' := sI (sI (wA sMo 16 g) 3 (Int32.ofInt (e : Int))) 5 0) ⟨fun j hj => ?_, fun a h1 h2 => ?_⟩ (FX_m q5)
  · rw [sI_n _ _ _ _ (by omega)]
    by_cases c : j = 3
    · subst c
      rw [sI_s, sI_s]
    · rw [sI_n _ _ _ _ c, sI_n _ _ _ _ c]
      rfl
  · exact wA_g _ _ _ _ h2
