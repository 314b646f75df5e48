/-! the net: the class's rounds -/
def repC (r : Nat → Int32) (sNc : MS) (C : Nat → Nat → Int) : Prop := ∀ p f, p < nP r → f ≤ 40 → sNc.2.2.1 p f = Int32.ofInt (cN (C p f))
theorem cN_c {v B : Int} (h : v = 1000000000 ∨ (0 ≤ v ∧ v ≤ B)) (hB : B ≤ 200000000) : (cN v = 268435456 ∧ v = 1000000000) ∨ (cN v = v ∧ 0 ≤ v ∧ v ≤ B) := by
  unfold cN
  by_cases c : v = 1000000000
  · rw [if_pos c]; exact Or.inl ⟨rfl, c⟩
  · rw [if_neg c]; exact Or.inr ⟨rfl, by omega⟩
theorem st64 {F : Nat} {sRo sNc : MS} {r : Nat → Int32} (hR : RR sRo r) (h : ROK r) {mp : Int32} (mn : Bool) {p : Nat} (hp : p < nP r) {C : Nat → Nat → Int} {B : Int} (hC : COK C B) (hB : B ≤ 90000000) (hs : repC r sNc C) (x5 : Int32) (hx5 : x5 = 0 ↔ ¬ 0 < pm r p) : ∀ (d f n : Nat) (s : MS), f + d = nT r + 1 → d < n → (∀ x, x < f → s.2.2.1 1 x = Int32.ofInt (cN (cG r mn p (C p) x))) →
    ∃ s', f_X5_stopAt_64 F sNc sRo (Int32.ofInt (p : Int)) mp n x5 (Int32.ofInt (pr' r mn p)) (Int32.ofInt (st' r mn)) (Int32.ofInt (bst (pr' r mn p) (C p) f)) (Int32.ofInt (f : Int)) s = some s' ∧ (∀ x, x ≤ nT r → s'.2.2.1 1 x = Int32.ofInt (cN (cG r mn p (C p) x))) := by
  obtain ⟨q0, q1, q2, q3, q4, q5, q8, q9⟩ := RRb hR
  obtain ⟨c1, c2, c3, c4, c5⟩ := nTP h
  have pb := pr_b' h mn (show p < 9 by omega)
  have sb := st_b' h mn
  intro d
  induction d with
  | zero =>
    intro f n s hf hn hg
    cases n with
    | zero => omega
    | succ n =>
      refine ⟨s, ?_, fun x hx => hg x (by omega)⟩
      have bs := (bst_sp pb.1 pb.2 (hC p) (by omega) f (by omega)).1
      rw [f_X5_stopAt_64]
      simp (disch := omega) only [z_0, z_1, z_2, z_3, z_4, z_5, z_6, z_7, z_8, z_9, z_10, z_11, z_12, z_14, z_18, z_20, z_22, z_24, z_32, z_38, z_40, z_41, z_44, z_48, z_49, z_57, z_59, z_60, z_63, z_65, z_74, z_75, z_81, z_97, z_99, z_104, z_115, z_119, z_122, z_200, z_209, z_210, z_219, z_228, z_255, z_300, z_369, z_999, z_65537, z_268435456, z_1000000000, n_nat, n_add, n_sub, n_mul, n_neg, n_lt, n_le, n_eq, n_ix, n_gd, n_nz, lz_t, bd_some, tn, Int.reduceToNat, tn_1, if_pos, if_neg, if_true, if_false, q0]
  | succ d ih =>
    intro f n s hf hn hg
    cases n with
    | zero => omega
    | succ n =>
      have cf := cN_c (hC p f (by omega)) (by omega)
      have cell := hs p f hp (by omega)
      have m := mulg pb.1 pb.2 (show 0 ≤ (f : Int) by omega) (show (f : Int) ≤ 40 by omega)
      have bb : -5000 ≤ bst (pr' r mn p) (C p) f ∧ (bst (pr' r mn p) (C p) f = 268435456 ∨ bst (pr' r mn p) (C p) f ≤ B) := by
        obtain ⟨b1, -⟩ := bst_sp pb.1 pb.2 (hC p) (by omega) f (by omega)
        rcases b1 with ⟨k, -⟩ | ⟨k0, g, k1, k2, k3⟩
        · omega
        · have mg := mulg pb.1 pb.2 (show 0 ≤ (g : Int) by omega) (show (g : Int) ≤ 40 by omega)
          have := hC p g (by omega)
          omega
      -- what comes behind: the best from here on
      have e123 : ∀ s1 : MS, (∀ x, x < f + 1 → s1.2.2.1 1 x = Int32.ofInt (cN (cG r mn p (C p) x))) → ∃ s', f_X5_stopAt_123 F sNc sRo (Int32.ofInt (p : Int)) mp (f_X5_stopAt_64 F sNc sRo (Int32.ofInt (p : Int)) mp n) x5 (Int32.ofInt (pr' r mn p)) (Int32.ofInt (st' r mn)) (Int32.ofInt (bst (pr' r mn p) (C p) f)) (Int32.ofInt (f : Int)) s1 = some s' ∧ (∀ x, x ≤ nT r → s'.2.2.1 1 x = Int32.ofInt (cN (cG r mn p (C p) x))) := by
        intro s1 h1
        obtain ⟨s', z1, z2⟩ := ih (f + 1) n s1 (by omega) (by omega) h1
        refine ⟨s', ?_, z2⟩
        rw [bst_s] at z1
        unfold f_X5_stopAt_123 f_X5_stopAt_151
        by_cases k : C p f < 1000000000
        · rw [if_pos k] at z1
          have ck : cN (C p f) = C p f := by omega
          rw [ck] at cell
          by_cases k2 : C p f - pr' r mn p * (f : Int) < bst (pr' r mn p) (C p) f
          · rw [if_pos k2] at z1
            simp (disch := omega) only [z_0, z_1, z_2, z_3, z_4, z_5, z_6, z_7, z_8, z_9, z_10, z_11, z_12, z_14, z_18, z_20, z_22, z_24, z_32, z_38, z_40, z_41, z_44, z_48, z_49, z_57, z_59, z_60, z_63, z_65, z_74, z_75, z_81, z_97, z_99, z_104, z_115, z_119, z_122, z_200, z_209, z_210, z_219, z_228, z_255, z_300, z_369, z_999, z_65537, z_268435456, z_1000000000, n_nat, n_add, n_sub, n_mul, n_neg, n_lt, n_le, n_eq, n_ix, n_gd, n_nz, lz_t, bd_some, tn, Int.reduceToNat, tn_1, if_pos, if_neg, if_true, if_false, cell]
            exact z1
          · rw [if_neg k2] at z1
            simp (disch := omega) only [z_0, z_1, z_2, z_3, z_4, z_5, z_6, z_7, z_8, z_9, z_10, z_11, z_12, z_14, z_18, z_20, z_22, z_24, z_32, z_38, z_40, z_41, z_44, z_48, z_49, z_57, z_59, z_60, z_63, z_65, z_74, z_75, z_81, z_97, z_99, z_104, z_115, z_119, z_122, z_200, z_209, z_210, z_219, z_228, z_255, z_300, z_369, z_999, z_65537, z_268435456, z_1000000000, n_nat, n_add, n_sub, n_mul, n_neg, n_lt, n_le, n_eq, n_ix, n_gd, n_nz, lz_t, bd_some, tn, Int.reduceToNat, tn_1, if_pos, if_neg, if_true, if_false, cell]
            exact z1
        · rw [if_neg k] at z1
          have ck : cN (C p f) = 268435456 := by omega
          rw [ck] at cell
          simp (disch := omega) only [z_0, z_1, z_2, z_3, z_4, z_5, z_6, z_7, z_8, z_9, z_10, z_11, z_12, z_14, z_18, z_20, z_22, z_24, z_32, z_38, z_40, z_41, z_44, z_48, z_49, z_57, z_59, z_60, z_63, z_65, z_74, z_75, z_81, z_97, z_99, z_104, z_115, z_119, z_122, z_200, z_209, z_210, z_219, z_228, z_255, z_300, z_369, z_999, z_65537, z_268435456, z_1000000000, n_nat, n_add, n_sub, n_mul, n_neg, n_lt, n_le, n_eq, n_ix, n_gd, n_nz, lz_t, bd_some, tn, Int.reduceToNat, tn_1, if_pos, if_neg, if_true, if_false, cell]
          exact z1
      rw [f_X5_stopAt_64]
      by_cases kp : 0 < pm r p
      · have x5n : ¬ x5 = 0 := fun q => (hx5.mp q) kp
        have x5n' : ¬ x5 = Int32.ofInt 0 := x5n
        by_cases kb : bst (pr' r mn p) (C p) f < 268435456
        · have gE : cG r mn p (C p) f = if bst (pr' r mn p) (C p) f + pr' r mn p * (f : Int) + st' r mn < C p f then bst (pr' r mn p) (C p) f + pr' r mn p * (f : Int) + st' r mn else C p f := by
            unfold cG
            rw [if_pos ⟨kp, kb⟩]
          have cG4 := (cG_sp h mn (show p < 9 by omega) (hC p) (by omega) (f := f) (by omega)).2.2.2
          by_cases k3 : bst (pr' r mn p) (C p) f + pr' r mn p * (f : Int) + st' r mn < C p f
          · rw [if_pos k3] at gE
            obtain ⟨s', z1, z2⟩ := e123 (sA (sA s 1 f (Int32.ofInt (cN (C p f)))) 1 f (Int32.ofInt (bst (pr' r mn p) (C p) f + pr' r mn p * (f : Int) + st' r mn))) (by
              intro x hx
              by_cases e : x = f
              · subst e
                simp (disch := omega) only [sI_a, sI_b, sL_a, sL_b, sL_c, wA_a, wA_b, wA_c, wA_d, wB_a, wB_b, wB_c, wB_d, sA_w, sB_w, uN_s, uN_n, up_s, up_n, ul_s, ul_n, p_fst, p_snd]
                have : cN (cG r mn p (C p) x) = cG r mn p (C p) x := by unfold cN; rw [if_neg (by omega)]
                rw [this, gE]
              · simp (disch := omega) only [sI_a, sI_b, sL_a, sL_b, sL_c, wA_a, wA_b, wA_c, wA_d, wB_a, wB_b, wB_c, wB_d, sA_w, sB_w, uN_s, uN_n, up_s, up_n, ul_s, ul_n, p_fst, p_snd]
                exact hg x (by omega))
            refine ⟨s', ?_, z2⟩
            simp (disch := omega) only [z_0, z_1, z_2, z_3, z_4, z_5, z_6, z_7, z_8, z_9, z_10, z_11, z_12, z_14, z_18, z_20, z_22, z_24, z_32, z_38, z_40, z_41, z_44, z_48, z_49, z_57, z_59, z_60, z_63, z_65, z_74, z_75, z_81, z_97, z_99, z_104, z_115, z_119, z_122, z_200, z_209, z_210, z_219, z_228, z_255, z_300, z_369, z_999, z_65537, z_268435456, z_1000000000, n_nat, n_add, n_sub, n_mul, n_neg, n_lt, n_le, n_eq, n_ix, n_gd, n_nz, lz_t, bd_some, tn, Int.reduceToNat, tn_1, if_pos, if_neg, if_true, if_false, q0, cell, if_neg x5n']
            exact z1
          · rw [if_neg k3] at gE
            obtain ⟨s', z1, z2⟩ := e123 (sA (sA s 1 f (Int32.ofInt (cN (C p f)))) 1 f (Int32.ofInt (cN (C p f)))) (by
              intro x hx
              by_cases e : x = f
              · subst e
                simp (disch := omega) only [sI_a, sI_b, sL_a, sL_b, sL_c, wA_a, wA_b, wA_c, wA_d, wB_a, wB_b, wB_c, wB_d, sA_w, sB_w, uN_s, uN_n, up_s, up_n, ul_s, ul_n, p_fst, p_snd]
                rw [gE]
              · simp (disch := omega) only [sI_a, sI_b, sL_a, sL_b, sL_c, wA_a, wA_b, wA_c, wA_d, wB_a, wB_b, wB_c, wB_d, sA_w, sB_w, uN_s, uN_n, up_s, up_n, ul_s, ul_n, p_fst, p_snd]
                exact hg x (by omega))
            refine ⟨s', ?_, z2⟩
            simp (disch := omega) only [z_0, z_1, z_2, z_3, z_4, z_5, z_6, z_7, z_8, z_9, z_10, z_11, z_12, z_14, z_18, z_20, z_22, z_24, z_32, z_38, z_40, z_41, z_44, z_48, z_49, z_57, z_59, z_60, z_63, z_65, z_74, z_75, z_81, z_97, z_99, z_104, z_115, z_119, z_122, z_200, z_209, z_210, z_219, z_228, z_255, z_300, z_369, z_999, z_65537, z_268435456, z_1000000000, n_nat, n_add, n_sub, n_mul, n_neg, n_lt, n_le, n_eq, n_ix, n_gd, n_nz, lz_t, bd_some, tn, Int.reduceToNat, tn_1, if_pos, if_neg, if_true, if_false, q0, cell, if_neg x5n']
            exact z1
        · have gE : cG r mn p (C p) f = C p f := by
            unfold cG
            rw [if_neg (fun q => kb q.2)]
          obtain ⟨s', z1, z2⟩ := e123 (sA s 1 f (Int32.ofInt (cN (C p f)))) (by
            intro x hx
            by_cases e : x = f
            · subst e
              simp (disch := omega) only [sI_a, sI_b, sL_a, sL_b, sL_c, wA_a, wA_b, wA_c, wA_d, wB_a, wB_b, wB_c, wB_d, sA_w, sB_w, uN_s, uN_n, up_s, up_n, ul_s, ul_n, p_fst, p_snd]
              rw [gE]
            · simp (disch := omega) only [sI_a, sI_b, sL_a, sL_b, sL_c, wA_a, wA_b, wA_c, wA_d, wB_a, wB_b, wB_c, wB_d, sA_w, sB_w, uN_s, uN_n, up_s, up_n, ul_s, ul_n, p_fst, p_snd]
              exact hg x (by omega))
          refine ⟨s', ?_, z2⟩
          simp (disch := omega) only [z_0, z_1, z_2, z_3, z_4, z_5, z_6, z_7, z_8, z_9, z_10, z_11, z_12, z_14, z_18, z_20, z_22, z_24, z_32, z_38, z_40, z_41, z_44, z_48, z_49, z_57, z_59, z_60, z_63, z_65, z_74, z_75, z_81, z_97, z_99, z_104, z_115, z_119, z_122, z_200, z_209, z_210, z_219, z_228, z_255, z_300, z_369, z_999, z_65537, z_268435456, z_1000000000, n_nat, n_add, n_sub, n_mul, n_neg, n_lt, n_le, n_eq, n_ix, n_gd, n_nz, lz_t, bd_some, tn, Int.reduceToNat, tn_1, if_pos, if_neg, if_true, if_false, q0, cell, if_neg x5n']
          exact z1
      · have x5n : x5 = Int32.ofInt 0 := hx5.mpr kp
        have gE : cG r mn p (C p) f = C p f := by
          unfold cG
          rw [if_neg (fun q => kp q.1)]
        obtain ⟨s', z1, z2⟩ := e123 (sA s 1 f (Int32.ofInt (cN (C p f)))) (by
          intro x hx
          by_cases e : x = f
          · subst e
            simp (disch := omega) only [sI_a, sI_b, sL_a, sL_b, sL_c, wA_a, wA_b, wA_c, wA_d, wB_a, wB_b, wB_c, wB_d, sA_w, sB_w, uN_s, uN_n, up_s, up_n, ul_s, ul_n, p_fst, p_snd]
            rw [gE]
          · simp (disch := omega) only [sI_a, sI_b, sL_a, sL_b, sL_c, wA_a, wA_b, wA_c, wA_d, wB_a, wB_b, wB_c, wB_d, sA_w, sB_w, uN_s, uN_n, up_s, up_n, ul_s, ul_n, p_fst, p_snd]
            exact hg x (by omega))
        refine ⟨s', ?_, z2⟩
        simp (disch := omega) only [z_0, z_1, z_2, z_3, z_4, z_5, z_6, z_7, z_8, z_9, z_10, z_11, z_12, z_14, z_18, z_20, z_22, z_24, z_32, z_38, z_40, z_41, z_44, z_48, z_49, z_57, z_59, z_60, z_63, z_65, z_74, z_75, z_81, z_97, z_99, z_104, z_115, z_119, z_122, z_200, z_209, z_210, z_219, z_228, z_255, z_300, z_369, z_999, z_65537, z_268435456, z_1000000000, n_nat, n_add, n_sub, n_mul, n_neg, n_lt, n_le, n_eq, n_ix, n_gd, n_nz, lz_t, bd_some, tn, Int.reduceToNat, tn_1, if_pos, if_neg, if_true, if_false, q0, cell, if_pos x5n]
        exact z1
theorem stopAt_e {F : Nat} (hF : 100 ≤ F) {sRo sNc : MS} {r : Nat → Int32} (hR : RR sRo r) (h : ROK r) {mp : Int32} {mn : Bool} (hm : mp = 0 ↔ mn = false) {p : Nat} (hp : p < nP r) {C : Nat → Nat → Int} {B : Int} (hC : COK C B) (hB : B ≤ 90000000) (hs : repC r sNc C) (s : MS) :
    ∃ s', f_X5_stopAt F sNc sRo (Int32.ofInt (p : Int)) mp s = some s' ∧ (∀ x, x ≤ nT r → s'.2.2.1 1 x = Int32.ofInt (cN (cG r mn p (C p) x))) := by
  obtain ⟨q0, q1, q2, q3, q4, q5, q8, q9⟩ := RRb hR
  obtain ⟨c1, c2, c3, c4, c5⟩ := nTP h
  have pb := pm_b h (show p < 9 by omega)
  have a1 : sRo.2.2.1 12 p = Int32.ofInt (pm r p) := by
    rw [(hR.2.2.2.1 p (by omega)).1]
    exact rd_e r _
  obtain ⟨s', z1, z2⟩ := st64 (F := F) hR h (mp := mp) mn hp hC hB hs (if 0 < pm r p then 1 else 0) (by
    by_cases k : 0 < pm r p
    · rw [if_pos k]
      exact ⟨fun q => absurd q (by decide), fun q => absurd k q⟩
    · rw [if_neg k]
      exact ⟨fun _ => k, fun _ => rfl⟩) (nT r + 1) 0 F s (by omega) (by omega) (fun x hx => by omega)
  refine ⟨s', ?_, z2⟩
  have e55 : ∀ y : Int32, y = (if 0 < pm r p then 1 else 0) → f_X5_stopAt_22 F sNc sRo (Int32.ofInt (p : Int)) mp y s = some s' := by
    intro y hy
    subst hy
    unfold f_X5_stopAt_22 f_X5_stopAt_38 f_X5_stopAt_55
    by_cases cm : mp = 0
    · have hmn : mn = false := hm.mp cm
      have e1 : pr' r mn p = pm r p := by unfold pr'; rw [hmn]; rfl
      have e2 : st' r mn = rd r 2 := by unfold st'; rw [hmn]; rfl
      have cm' : mp = Int32.ofInt 0 := cm
      rw [e1, e2] at z1
      simp (disch := omega) only [z_0, z_1, z_2, z_3, z_4, z_5, z_6, z_7, z_8, z_9, z_10, z_11, z_12, z_14, z_18, z_20, z_22, z_24, z_32, z_38, z_40, z_41, z_44, z_48, z_49, z_57, z_59, z_60, z_63, z_65, z_74, z_75, z_81, z_97, z_99, z_104, z_115, z_119, z_122, z_200, z_209, z_210, z_219, z_228, z_255, z_300, z_369, z_999, z_65537, z_268435456, z_1000000000, n_nat, n_add, n_sub, n_mul, n_neg, n_lt, n_le, n_eq, n_ix, n_gd, n_nz, lz_t, bd_some, tn, Int.reduceToNat, tn_1, if_pos, if_neg, if_true, if_false, if_pos cm', a1, q2]
      exact z1
    · have hmn : mn = true := by cases mn with
        | true => rfl
        | false => exact absurd (hm.mpr rfl) cm
      have e1 : pr' r mn p = 0 := by unfold pr'; rw [hmn]; rfl
      have e2 : st' r mn = rd r 3 := by unfold st'; rw [hmn]; rfl
      have cm' : ¬ mp = Int32.ofInt 0 := cm
      rw [e1, e2] at z1
      simp (disch := omega) only [z_0, z_1, z_2, z_3, z_4, z_5, z_6, z_7, z_8, z_9, z_10, z_11, z_12, z_14, z_18, z_20, z_22, z_24, z_32, z_38, z_40, z_41, z_44, z_48, z_49, z_57, z_59, z_60, z_63, z_65, z_74, z_75, z_81, z_97, z_99, z_104, z_115, z_119, z_122, z_200, z_209, z_210, z_219, z_228, z_255, z_300, z_369, z_999, z_65537, z_268435456, z_1000000000, n_nat, n_add, n_sub, n_mul, n_neg, n_lt, n_le, n_eq, n_ix, n_gd, n_nz, lz_t, bd_some, tn, Int.reduceToNat, tn_1, if_pos, if_neg, if_true, if_false, if_neg cm', q3]
      exact z1
  unfold f_X5_stopAt
  by_cases k : 0 < pm r p
  · have := e55 (Int32.ofInt 1) (by rw [if_pos k]; rfl)
    simp (disch := omega) only [z_0, z_1, z_2, z_3, z_4, z_5, z_6, z_7, z_8, z_9, z_10, z_11, z_12, z_14, z_18, z_20, z_22, z_24, z_32, z_38, z_40, z_41, z_44, z_48, z_49, z_57, z_59, z_60, z_63, z_65, z_74, z_75, z_81, z_97, z_99, z_104, z_115, z_119, z_122, z_200, z_209, z_210, z_219, z_228, z_255, z_300, z_369, z_999, z_65537, z_268435456, z_1000000000, n_nat, n_add, n_sub, n_mul, n_neg, n_lt, n_le, n_eq, n_ix, n_gd, n_nz, lz_t, bd_some, tn, Int.reduceToNat, tn_1, if_pos, if_neg, if_true, if_false, a1, this]
  · have := e55 (Int32.ofInt 0) (by rw [if_neg k]; rfl)
    simp (disch := omega) only [z_0, z_1, z_2, z_3, z_4, z_5, z_6, z_7, z_8, z_9, z_10, z_11, z_12, z_14, z_18, z_20, z_22, z_24, z_32, z_38, z_40, z_41, z_44, z_48, z_49, z_57, z_59, z_60, z_63, z_65, z_74, z_75, z_81, z_97, z_99, z_104, z_115, z_119, z_122, z_200, z_209, z_210, z_219, z_228, z_255, z_300, z_369, z_999, z_65537, z_268435456, z_1000000000, n_nat, n_add, n_sub, n_mul, n_neg, n_lt, n_le, n_eq, n_ix, n_gd, n_nz, lz_t, bd_some, tn, Int.reduceToNat, tn_1, if_pos, if_neg, if_true, if_false, a1, this]
