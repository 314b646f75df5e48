/-! layPlans: rows and stations -/
theorem lay_f {F : Nat} (hF : 100 ≤ F) {r : Nat → Int32} (h : ROK r) (q : Bool) (sh : Int) {i : Nat} (hi : (i : Int) + 1 < rd r 8) (o : Bool) (k40 : Int32 → MS → Option MS) (nx : Nat → Int) {B : Int} (hB : B ≤ 100000) (hok : okV (rd r 0).toNat B nx) :
    ∀ (d f n : Nat) (s : MS), f + d = (rd r 0).toNat + 1 → d < n → s.2.2.1 15 = r → (∀ x : Nat, (x : Int) ≤ rd r 0 → s.2.2.1 23 (41 * (i + 1) + x) = Int32.ofInt (nx x)) →
    ∃ s', f_X11_layPlans_67 F (bi q) (Int32.ofInt sh) k40 n (Int32.ofInt (i : Int)) (bi o) (Int32.ofInt (f : Int)) s = k40 (Int32.ofInt ((i : Int) + -1)) s' ∧ FW s s' 23 24 ∧ (∀ x : Nat, f ≤ x → (x : Int) ≤ rd r 0 → s'.2.2.1 23 (41 * i + x) = Int32.ofInt (stepV (rd r 0).toNat (lg r i) (if q then 0 else rp r i) (if q then 1 else rd r 2) o nx x) ∧ s'.2.2.1 24 (41 * i + x) = Int32.ofInt ((stepB (rd r 0).toNat (lg r i) (if q then 0 else rp r i) (if q then 1 else rd r 2) o nx x : Nat) : Int)) ∧ (∀ j, (j < 41 * i + f ∨ 41 * (i + 1) ≤ j) → s'.2.2.1 23 j = s.2.2.1 23 j ∧ s'.2.2.1 24 j = s.2.2.1 24 j) := by
  obtain ⟨t0, t1, t2, t3, t4, t5, t8, t9⟩ := ROKb h
  intro d
  induction d with
  | zero =>
    intro f n s hf hn hs hnx
    cases n with
    | zero => omega
    | succ n =>
      have r0 : s.2.2.1 15 0 = Int32.ofInt (rd r 0) := by rw [hs]; exact rd_e r 0
      refine ⟨s, ?_, FW_r s 23 24, fun x h1 h2 => by omega, fun _ _ => ⟨rfl, rfl⟩⟩
      rw [f_X11_layPlans_67]
      simp (disch := omega) only [f_X11_layPlans_269, z_0, z_1, z_2, z_3, z_4, z_5, z_6, z_7, z_8, z_9, z_10, z_11, z_12, z_14, z_18, z_20, z_22, z_24, z_32, z_38, z_40, z_41, z_44, z_48, z_49, z_57, z_59, z_60, z_63, z_65, z_74, z_75, z_81, z_97, z_99, z_104, z_115, z_119, z_122, z_200, z_209, z_210, z_219, z_228, z_255, z_300, z_369, z_999, z_65537, z_268435456, z_1000000000, n_nat, n_add, n_sub, n_mul, n_neg, n_lt, n_le, n_eq, n_ix, n_gd, n_nz, lz_t, bd_some, tn, Int.reduceToNat, tn_1, if_pos, if_neg, if_true, if_false, sI_a, sI_b, sL_a, sL_b, sL_c, wA_a, wA_b, wA_c, wA_d, wB_a, wB_b, wB_c, wB_d, sA_w, sB_w, uN_s, uN_n, up_s, up_n, ul_s, ul_n, p_fst, p_snd, r0]
  | succ d ih =>
    intro f n s hf hn hs hnx
    cases n with
    | zero => omega
    | succ n =>
      have r0 : s.2.2.1 15 0 = Int32.ofInt (rd r 0) := by rw [hs]; exact rd_e r 0
      obtain ⟨s1, a1, a2, a3, a4, a5⟩ := lay_n (F := F) h q sh hi (f := f) (by omega) o (f_X11_layPlans_67 F (bi q) (Int32.ofInt sh) k40 n) nx hB hok rfl ((if o then (rd r 0).toNat - f else 0) + 1) 0 F (sA (sA s 23 (41 * i + f) (Int32.ofInt 1000000000)) 24 (41 * i + f) (Int32.ofInt 0)) (by omega) (by split <;> omega) (by
          simp (disch := omega) only [sI_a, sI_b, sL_a, sL_b, sL_c, wA_a, wA_b, wA_c, wA_d, wB_a, wB_b, wB_c, wB_d, sA_w, sB_w, uN_s, uN_n, up_s, up_n, ul_s, ul_n, p_fst, p_snd]
          exact hs) (by
          intro x hx
          rw [← hnx x hx]
          simp (disch := omega) only [sI_a, sI_b, sL_a, sL_b, sL_c, wA_a, wA_b, wA_c, wA_d, wB_a, wB_b, wB_c, wB_d, sA_w, sB_w, uN_s, uN_n, up_s, up_n, ul_s, ul_n, p_fst, p_snd]) (by
          simp (disch := omega) only [sI_a, sI_b, sL_a, sL_b, sL_c, wA_a, wA_b, wA_c, wA_d, wB_a, wB_b, wB_c, wB_d, sA_w, sB_w, uN_s, uN_n, up_s, up_n, ul_s, ul_n, p_fst, p_snd]
          rfl) (by
          simp (disch := omega) only [sI_a, sI_b, sL_a, sL_b, sL_c, wA_a, wA_b, wA_c, wA_d, wB_a, wB_b, wB_c, wB_d, sA_w, sB_w, uN_s, uN_n, up_s, up_n, ul_s, ul_n, p_fst, p_snd]
          rfl)
      have fw0 : FW s (sA (sA s 23 (41 * i + f) (Int32.ofInt 1000000000)) 24 (41 * i + f) (Int32.ofInt 0)) 23 24 := FW_t (FW_a _ _ _ _ _) (FW_b _ _ _ _ _)
      have fw1 := FW_t fw0 a2
      have hj : ∀ j, j ≠ 41 * i + f → s1.2.2.1 23 j = s.2.2.1 23 j ∧ s1.2.2.1 24 j = s.2.2.1 24 j := by
        intro j hj
        rw [(a5 j hj).1, (a5 j hj).2]
        simp (disch := omega) only [sI_a, sI_b, sL_a, sL_b, sL_c, wA_a, wA_b, wA_c, wA_d, wB_a, wB_b, wB_c, wB_d, sA_w, sB_w, uN_s, uN_n, up_s, up_n, ul_s, ul_n, p_fst, p_snd]
        exact ⟨trivial, trivial⟩
      obtain ⟨s2, b1, b2, b3, b4⟩ := ih (f + 1) n s1 (by omega) (by omega) (by rw [fw1.2.2.2 15 (by omega) (by omega)]; exact hs) (by
        intro x hx
        rw [(hj _ (by omega)).1]
        exact hnx x hx)
      refine ⟨s2, ?_, FW_t fw1 b2, ?_, ?_⟩
      · rw [f_X11_layPlans_67]
        simp (disch := omega) only [z_0, z_1, z_2, z_3, z_4, z_5, z_6, z_7, z_8, z_9, z_10, z_11, z_12, z_14, z_18, z_20, z_22, z_24, z_32, z_38, z_40, z_41, z_44, z_48, z_49, z_57, z_59, z_60, z_63, z_65, z_74, z_75, z_81, z_97, z_99, z_104, z_115, z_119, z_122, z_200, z_209, z_210, z_219, z_228, z_255, z_300, z_369, z_999, z_65537, z_268435456, z_1000000000, n_nat, n_add, n_sub, n_mul, n_neg, n_lt, n_le, n_eq, n_ix, n_gd, n_nz, lz_t, bd_some, tn, Int.reduceToNat, tn_1, if_pos, if_neg, if_true, if_false, r0, tn_41]
        rw [show (((f + 1 : Nat) : Int)) = (f : Int) + 1 by omega] at b1
        rw [b1] at a1
        exact a1
      · intro x h1 h2
        by_cases e : x = f
        · subst e
          obtain ⟨c1, c2⟩ := b4 (41 * i + x) (by omega)
          rw [c1, c2]
          exact ⟨a3, a4⟩
        · exact b3 x (by omega) h2
      · intro j hj1
        obtain ⟨c1, c2⟩ := b4 j (by omega)
        rw [c1, c2]
        exact hj j (by omega)
def layI (r : Nat → Int32) (q : Bool) (sh : Int) (e : Nat) (s : MS) : Prop :=
  (∀ i : Nat, e ≤ i → (i : Int) < rd r 8 → ∀ x : Nat, (x : Int) ≤ rd r 0 → s.2.2.1 23 (41 * i + x) = Int32.ofInt (vR r q sh ((rd r 8).toNat - 1 - i) x)) ∧
  (∀ i : Nat, e ≤ i → (i : Int) + 1 < rd r 8 → ∀ x : Nat, (x : Int) ≤ rd r 0 → s.2.2.1 24 (41 * i + x) = Int32.ofInt ((bR r q sh ((rd r 8).toNat - 2 - i) x : Nat) : Int))
theorem lay_i {F : Nat} (hF : 100 ≤ F) {r : Nat → Int32} (h : ROK r) (q : Bool) (sh : Int) (hsh : -1 ≤ sh) (hsh2 : sh < 9) :
    ∀ (e n : Nat) (s : MS), (e : Int) < rd r 8 → e < n → s.2.2.1 15 = r → layI r q sh e s →
    ∃ s', f_X11_layPlans_40 F (bi q) (Int32.ofInt sh) n (Int32.ofInt ((e : Int) - 1)) s = some s' ∧ FW s s' 23 24 ∧ layI r q sh 0 s' := by
  obtain ⟨t0, t1, t2, t3, t4, t5, t8, t9⟩ := ROKb h
  intro e
  induction e with
  | zero =>
    intro n s he hn hs hI
    cases n with
    | zero => omega
    | succ n =>
      refine ⟨s, ?_, FW_r s 23 24, hI⟩
      rw [f_X11_layPlans_40]
      simp (disch := omega) only [z_0, z_1, z_2, z_3, z_4, z_5, z_6, z_7, z_8, z_9, z_10, z_11, z_12, z_14, z_18, z_20, z_22, z_24, z_32, z_38, z_40, z_41, z_44, z_48, z_49, z_57, z_59, z_60, z_63, z_65, z_74, z_75, z_81, z_97, z_99, z_104, z_115, z_119, z_122, z_200, z_209, z_210, z_219, z_228, z_255, z_300, z_369, z_999, z_65537, z_268435456, z_1000000000, n_nat, n_add, n_sub, n_mul, n_neg, n_lt, n_le, n_eq, n_ix, n_gd, n_nz, lz_t, bd_some, tn, Int.reduceToNat, tn_1, if_pos, if_neg, if_true, if_false, sI_a, sI_b, sL_a, sL_b, sL_c, wA_a, wA_b, wA_c, wA_d, wB_a, wB_b, wB_c, wB_d, sA_w, sB_w, uN_s, uN_n, up_s, up_n, ul_s, ul_n, p_fst, p_snd]
  | succ e ih =>
    intro n s he hn hs hI
    cases n with
    | zero => omega
    | succ n =>
      have e1 : ((e + 1 : Nat) : Int) - 1 = e := by omega
      have p := rp_b h (i := e) (by omega)
      have hd : (rd r 8).toNat - 1 - e = ((rd r 8).toNat - 1 - (e + 1)) + 1 := by omega
      have hd2 : (rd r 8).toNat - 2 - e = (rd r 8).toNat - 1 - (e + 1) := by omega
      have hi : (rd r 8).toNat - 2 - ((rd r 8).toNat - 1 - (e + 1)) = e := by omega
      have ok := vR_ok h q sh ((rd r 8).toNat - 1 - (e + 1)) (by omega)
      obtain ⟨s1, a1, a2, a3, a4⟩ := lay_f (F := F) hF h q sh (i := e) (by omega) (decide (0 < rp r e) && !decide ((e : Int) = sh)) (f_X11_layPlans_40 F (bi q) (Int32.ofInt sh) n) (vR r q sh ((rd r 8).toNat - 1 - (e + 1))) (by omega) ok ((rd r 0).toNat + 1) 0 F s (by omega) (by omega) hs (fun x hx => hI.1 (e + 1) (by omega) (by omega) x hx)
      have vE : ∀ x, vR r q sh ((rd r 8).toNat - 1 - e) x = stepV (rd r 0).toNat (lg r e) (if q then 0 else rp r e) (if q then 1 else rd r 2) (decide (0 < rp r e) && !decide ((e : Int) = sh)) (vR r q sh ((rd r 8).toNat - 1 - (e + 1))) x := by
        intro x
        rw [hd]
        show stepV _ _ _ _ _ _ _ = _
        rw [hi]
      have bE : ∀ x, bR r q sh ((rd r 8).toNat - 2 - e) x = stepB (rd r 0).toNat (lg r e) (if q then 0 else rp r e) (if q then 1 else rd r 2) (decide (0 < rp r e) && !decide ((e : Int) = sh)) (vR r q sh ((rd r 8).toNat - 1 - (e + 1))) x := by
        intro x
        rw [hd2]
        unfold bR
        rw [hi]
      obtain ⟨s2, b1, b2, b3⟩ := ih n s1 (by omega) (by omega) (by rw [a2.2.2.2 15 (by omega) (by omega)]; exact hs) ⟨by
        intro i h1 h2 x hx
        by_cases ei : i = e
        · subst ei
          rw [(a3 x (by omega) hx).1, vE]
        · rw [(a4 (41 * i + x) (by omega)).1]
          exact hI.1 i (by omega) h2 x hx, by
        intro i h1 h2 x hx
        by_cases ei : i = e
        · subst ei
          rw [(a3 x (by omega) hx).2, bE]
        · rw [(a4 (41 * i + x) (by omega)).2]
          exact hI.2 i (by omega) h2 x hx⟩
      refine ⟨s2, ?_, FW_t a2 b2, b3⟩
      rw [f_X11_layPlans_40, e1]
      rw [show ((e : Int) - 1) = (e : Int) + -1 by omega] at b1
      rw [b1] at a1
      by_cases c : 0 < rp r e
      · by_cases c2 : (e : Int) = sh
        · simp (disch := omega) only [z_0, z_1, z_2, z_3, z_4, z_5, z_6, z_7, z_8, z_9, z_10, z_11, z_12, z_14, z_18, z_20, z_22, z_24, z_32, z_38, z_40, z_41, z_44, z_48, z_49, z_57, z_59, z_60, z_63, z_65, z_74, z_75, z_81, z_97, z_99, z_104, z_115, z_119, z_122, z_200, z_209, z_210, z_219, z_228, z_255, z_300, z_369, z_999, z_65537, z_268435456, z_1000000000, n_nat, n_add, n_sub, n_mul, n_neg, n_lt, n_le, n_eq, n_ix, n_gd, n_nz, lz_t, bd_some, tn, Int.reduceToNat, tn_1, if_pos, if_neg, if_true, if_false, A11_price hs h, f_X11_layPlans_61, f_X11_layPlans_62]
          rw [← a1]
          simp [c, c2]
          rfl
        · simp (disch := omega) only [z_0, z_1, z_2, z_3, z_4, z_5, z_6, z_7, z_8, z_9, z_10, z_11, z_12, z_14, z_18, z_20, z_22, z_24, z_32, z_38, z_40, z_41, z_44, z_48, z_49, z_57, z_59, z_60, z_63, z_65, z_74, z_75, z_81, z_97, z_99, z_104, z_115, z_119, z_122, z_200, z_209, z_210, z_219, z_228, z_255, z_300, z_369, z_999, z_65537, z_268435456, z_1000000000, n_nat, n_add, n_sub, n_mul, n_neg, n_lt, n_le, n_eq, n_ix, n_gd, n_nz, lz_t, bd_some, tn, Int.reduceToNat, tn_1, if_pos, if_neg, if_true, if_false, A11_price hs h, f_X11_layPlans_62]
          rw [← a1]
          simp [c, c2]
          rfl
      · simp (disch := omega) only [z_0, z_1, z_2, z_3, z_4, z_5, z_6, z_7, z_8, z_9, z_10, z_11, z_12, z_14, z_18, z_20, z_22, z_24, z_32, z_38, z_40, z_41, z_44, z_48, z_49, z_57, z_59, z_60, z_63, z_65, z_74, z_75, z_81, z_97, z_99, z_104, z_115, z_119, z_122, z_200, z_209, z_210, z_219, z_228, z_255, z_300, z_369, z_999, z_65537, z_268435456, z_1000000000, n_nat, n_add, n_sub, n_mul, n_neg, n_lt, n_le, n_eq, n_ix, n_gd, n_nz, lz_t, bd_some, tn, Int.reduceToNat, tn_1, if_pos, if_neg, if_true, if_false, A11_price hs h, f_X11_layPlans_61, f_X11_layPlans_62]
        rw [← a1]
        simp [c]
        rfl
theorem lay_2 {F : Nat} (hF : 100 ≤ F) {r : Nat → Int32} (h : ROK r) (q : Bool) (sh : Int) (hsh : -1 ≤ sh) (hsh2 : sh < 9) :
    ∀ (d f n : Nat) (s : MS), f + d = (rd r 0).toNat + 1 → d < n → s.2.2.1 15 = r → (∀ x : Nat, x < f → s.2.2.1 23 (41 * ((rd r 8).toNat - 1) + x) = Int32.ofInt 0) →
    ∃ s', f_X11_layPlans_2 F (bi q) (Int32.ofInt sh) n (Int32.ofInt (f : Int)) s = some s' ∧ FW s s' 23 24 ∧ layI r q sh 0 s' := by
  obtain ⟨t0, t1, t2, t3, t4, t5, t8, t9⟩ := ROKb h
  intro d
  induction d with
  | zero =>
    intro f n s hf hn hs hI
    cases n with
    | zero => omega
    | succ n =>
      have r0 : s.2.2.1 15 0 = Int32.ofInt (rd r 0) := by rw [hs]; exact rd_e r 0
      obtain ⟨s1, a1, a2, a3⟩ := lay_i (F := F) hF h q sh hsh hsh2 ((rd r 8).toNat - 1) F s (by omega) (by omega) hs ⟨by
        intro i h1 h2 x hx
        have e : i = (rd r 8).toNat - 1 := by omega
        subst e
        rw [hI x (by omega), Nat.sub_self]
        rfl, by
        intro i h1 h2
        omega⟩
      refine ⟨s1, ?_, a2, a3⟩
      rw [f_X11_layPlans_2]
      simp (disch := omega) only [f_X11_layPlans_33, z_0, z_1, z_2, z_3, z_4, z_5, z_6, z_7, z_8, z_9, z_10, z_11, z_12, z_14, z_18, z_20, z_22, z_24, z_32, z_38, z_40, z_41, z_44, z_48, z_49, z_57, z_59, z_60, z_63, z_65, z_74, z_75, z_81, z_97, z_99, z_104, z_115, z_119, z_122, z_200, z_209, z_210, z_219, z_228, z_255, z_300, z_369, z_999, z_65537, z_268435456, z_1000000000, n_nat, n_add, n_sub, n_mul, n_neg, n_lt, n_le, n_eq, n_ix, n_gd, n_nz, lz_t, bd_some, tn, Int.reduceToNat, tn_1, if_pos, if_neg, if_true, if_false, r0, A11_last hs h]
      rw [show (((rd r 8).toNat - 1 : Nat) : Int) - 1 = rd r 8 - 1 - 1 by omega] at a1
      exact a1
  | succ d ih =>
    intro f n s hf hn hs hI
    cases n with
    | zero => omega
    | succ n =>
      have r0 : s.2.2.1 15 0 = Int32.ofInt (rd r 0) := by rw [hs]; exact rd_e r 0
      have ex : (41 * (rd r 8 - 1) + (f : Int)).toNat = 41 * ((rd r 8).toNat - 1) + f := by omega
      obtain ⟨s1, a1, a2, a3⟩ := ih (f + 1) n (sA s 23 (41 * ((rd r 8).toNat - 1) + f) (Int32.ofInt 0)) (by omega) (by omega) (by
        simp (disch := omega) only [sI_a, sI_b, sL_a, sL_b, sL_c, wA_a, wA_b, wA_c, wA_d, wB_a, wB_b, wB_c, wB_d, sA_w, sB_w, uN_s, uN_n, up_s, up_n, ul_s, ul_n, p_fst, p_snd]
        exact hs) (by
        intro x hx
        by_cases e : x = f
        · subst e
          simp (disch := omega) only [sI_a, sI_b, sL_a, sL_b, sL_c, wA_a, wA_b, wA_c, wA_d, wB_a, wB_b, wB_c, wB_d, sA_w, sB_w, uN_s, uN_n, up_s, up_n, ul_s, ul_n, p_fst, p_snd]
        · simp (disch := omega) only [sI_a, sI_b, sL_a, sL_b, sL_c, wA_a, wA_b, wA_c, wA_d, wB_a, wB_b, wB_c, wB_d, sA_w, sB_w, uN_s, uN_n, up_s, up_n, ul_s, ul_n, p_fst, p_snd]
          exact hI x (by omega))
      refine ⟨s1, ?_, FW_t (FW_a _ _ _ _ _) a2, a3⟩
      rw [f_X11_layPlans_2]
      simp (disch := omega) only [z_0, z_1, z_2, z_3, z_4, z_5, z_6, z_7, z_8, z_9, z_10, z_11, z_12, z_14, z_18, z_20, z_22, z_24, z_32, z_38, z_40, z_41, z_44, z_48, z_49, z_57, z_59, z_60, z_63, z_65, z_74, z_75, z_81, z_97, z_99, z_104, z_115, z_119, z_122, z_200, z_209, z_210, z_219, z_228, z_255, z_300, z_369, z_999, z_65537, z_268435456, z_1000000000, n_nat, n_add, n_sub, n_mul, n_neg, n_lt, n_le, n_eq, n_ix, n_gd, n_nz, lz_t, bd_some, tn, Int.reduceToNat, tn_1, if_pos, if_neg, if_true, if_false, r0, A11_last hs h, ex]
      exact a1
theorem lay_e {F : Nat} (hF : 100 ≤ F) {r : Nat → Int32} (h : ROK r) (q : Bool) (sh : Int) (hsh : -1 ≤ sh) (hsh2 : sh < 9) (s : MS) (hs : s.2.2.1 15 = r) :
    ∃ s', f_X11_layPlans F (bi q) (Int32.ofInt sh) s = some s' ∧ FW s s' 23 24 ∧ layI r q sh 0 s' := by
  obtain ⟨t0, t1, t2, t3, t4, t5, t8, t9⟩ := ROKb h
  exact lay_2 (F := F) hF h q sh hsh hsh2 ((rd r 0).toNat + 1) 0 F s (by omega) (by omega) hs (fun x hx => by omega)
def ans (v : Int) : Int := if v = 1000000000 then -2 else v
theorem leastFrom_e {F : Nat} {r : Nat → Int32} (h : ROK r) {q : Bool} {sh : Int} {s : MS} (hI : layI r q sh 0 s) {x : Nat} (hx : (x : Int) ≤ rd r 0) : f_X11_leastFrom F s (Int32.ofInt (x : Int)) = some (Int32.ofInt (ans (vR r q sh ((rd r 8).toNat - 1) x))) := by
  obtain ⟨t0, t1, t2, t3, t4, t5, t8, t9⟩ := ROKb h
  have hv := hI.1 0 (by omega) (by omega) x hx
  rw [Nat.mul_zero, Nat.zero_add, Nat.sub_zero] at hv
  have ok := vR_ok h q sh ((rd r 8).toNat - 1) (by omega) x (by omega)
  unfold f_X11_leastFrom ans
  by_cases c : vR r q sh ((rd r 8).toNat - 1) x = 1000000000
  · simp (disch := omega) only [z_0, z_1, z_2, z_3, z_4, z_5, z_6, z_7, z_8, z_9, z_10, z_11, z_12, z_14, z_18, z_20, z_22, z_24, z_32, z_38, z_40, z_41, z_44, z_48, z_49, z_57, z_59, z_60, z_63, z_65, z_74, z_75, z_81, z_97, z_99, z_104, z_115, z_119, z_122, z_200, z_209, z_210, z_219, z_228, z_255, z_300, z_369, z_999, z_65537, z_268435456, z_1000000000, n_nat, n_add, n_sub, n_mul, n_neg, n_lt, n_le, n_eq, n_ix, n_gd, n_nz, lz_t, bd_some, tn, Int.reduceToNat, tn_1, if_pos, if_neg, if_true, if_false, sI_a, sI_b, sL_a, sL_b, sL_c, wA_a, wA_b, wA_c, wA_d, wB_a, wB_b, wB_c, wB_d, sA_w, sB_w, uN_s, uN_n, up_s, up_n, ul_s, ul_n, p_fst, p_snd, hv]
  · simp (disch := omega) only [z_0, z_1, z_2, z_3, z_4, z_5, z_6, z_7, z_8, z_9, z_10, z_11, z_12, z_14, z_18, z_20, z_22, z_24, z_32, z_38, z_40, z_41, z_44, z_48, z_49, z_57, z_59, z_60, z_63, z_65, z_74, z_75, z_81, z_97, z_99, z_104, z_115, z_119, z_122, z_200, z_209, z_210, z_219, z_228, z_255, z_300, z_369, z_999, z_65537, z_268435456, z_1000000000, n_nat, n_add, n_sub, n_mul, n_neg, n_lt, n_le, n_eq, n_ix, n_gd, n_nz, lz_t, bd_some, tn, Int.reduceToNat, tn_1, if_pos, if_neg, if_true, if_false, sI_a, sI_b, sL_a, sL_b, sL_c, wA_a, wA_b, wA_c, wA_d, wB_a, wB_b, wB_c, wB_d, sA_w, sB_w, uN_s, uN_n, up_s, up_n, ul_s, ul_n, p_fst, p_snd, hv]
theorem answer_e {F : Nat} {v : Int} (hv : v = 1000000000 ∨ (0 ≤ v ∧ v ≤ 100000)) : f_X6_answer F (Int64.ofInt (cM v)) = some (Int32.ofInt (ans v)) := by
  unfold f_X6_answer cM ans
  by_cases c : v = 1000000000
  · simp (disch := omega) only [z_0, z_1, z_2, z_3, z_4, z_5, z_6, z_7, z_8, z_9, z_10, z_11, z_12, z_14, z_18, z_20, z_22, z_24, z_32, z_38, z_40, z_41, z_44, z_48, z_49, z_57, z_59, z_60, z_63, z_65, z_74, z_75, z_81, z_97, z_99, z_104, z_115, z_119, z_122, z_200, z_209, z_210, z_219, z_228, z_255, z_300, z_369, z_999, z_65537, z_268435456, z_1000000000, n_nat, n_add, n_sub, n_mul, n_neg, n_lt, n_le, n_eq, n_ix, n_gd, n_nz, lz_t, bd_some, tn, Int.reduceToNat, tn_1, if_pos, if_neg, if_true, if_false, sI_a, sI_b, sL_a, sL_b, sL_c, wA_a, wA_b, wA_c, wA_d, wB_a, wB_b, wB_c, wB_d, sA_w, sB_w, uN_s, uN_n, up_s, up_n, ul_s, ul_n, p_fst, p_snd, y_0, y_1, y_2, y_10, y_20, y_1099511627776, m_add, m_sub, m_mul, m_neg, m_lt, m_le, m_eq, m_of, m_nz, m_to, c_gt, c_ge, c_lt, c_le, c_eq, c]
  · simp (disch := omega) only [z_0, z_1, z_2, z_3, z_4, z_5, z_6, z_7, z_8, z_9, z_10, z_11, z_12, z_14, z_18, z_20, z_22, z_24, z_32, z_38, z_40, z_41, z_44, z_48, z_49, z_57, z_59, z_60, z_63, z_65, z_74, z_75, z_81, z_97, z_99, z_104, z_115, z_119, z_122, z_200, z_209, z_210, z_219, z_228, z_255, z_300, z_369, z_999, z_65537, z_268435456, z_1000000000, n_nat, n_add, n_sub, n_mul, n_neg, n_lt, n_le, n_eq, n_ix, n_gd, n_nz, lz_t, bd_some, tn, Int.reduceToNat, tn_1, if_pos, if_neg, if_true, if_false, sI_a, sI_b, sL_a, sL_b, sL_c, wA_a, wA_b, wA_c, wA_d, wB_a, wB_b, wB_c, wB_d, sA_w, sB_w, uN_s, uN_n, up_s, up_n, ul_s, ul_n, p_fst, p_snd, y_0, y_1, y_2, y_10, y_20, y_1099511627776, m_add, m_sub, m_mul, m_neg, m_lt, m_le, m_eq, m_of, m_nz, m_to, c_gt, c_ge, c_lt, c_le, c_eq]
theorem leastCost_e {F : Nat} (hF : 100 ≤ F) {sRo : MS} {r : Nat → Int32} (hR : RR sRo r) (h : ROK r) (sh : Int) (hsh : -1 ≤ sh) (hsh2 : sh < 9) (sPl sPc : MS) :
    ∃ sPl' sPc', f_X6_leastCost F sRo (Int32.ofInt sh) sPl sPc = some (Int32.ofInt (ans (vR r false sh ((rd r 8).toNat - 1) (rd r 1).toNat)), sPl', sPc') ∧ lookI r sh 0 sPl' sPc' ∧ sPl'.2.2.1 = sPl.2.2.1 := by
  obtain ⟨q0, q1, q2, q3, q4, q5, q8, q9⟩ := RRb hR
  obtain ⟨t0, t1, t2, t3, t4, t5, t8, t9⟩ := ROKb h
  obtain ⟨a, b, h1, h2, h3⟩ := look_e (F := F) hF hR h sh hsh hsh2 sPl sPc
  refine ⟨a, b, ?_, h2, h3⟩
  have ok := vR_ok h false sh ((rd r 8).toNat - 1) (by omega) (rd r 1).toNat (by omega)
  have hv := h2.1 (rd r 1).toNat (by omega)
  rw [Nat.sub_zero] at hv
  have an := answer_e (F := F) (v := vR r false sh ((rd r 8).toNat - 1) (rd r 1).toNat) (by omega)
  unfold f_X6_leastCost
  simp (disch := omega) only [z_0, z_1, z_2, z_3, z_4, z_5, z_6, z_7, z_8, z_9, z_10, z_11, z_12, z_14, z_18, z_20, z_22, z_24, z_32, z_38, z_40, z_41, z_44, z_48, z_49, z_57, z_59, z_60, z_63, z_65, z_74, z_75, z_81, z_97, z_99, z_104, z_115, z_119, z_122, z_200, z_209, z_210, z_219, z_228, z_255, z_300, z_369, z_999, z_65537, z_268435456, z_1000000000, n_nat, n_add, n_sub, n_mul, n_neg, n_lt, n_le, n_eq, n_ix, n_gd, n_nz, lz_t, bd_some, tn, Int.reduceToNat, tn_1, if_pos, if_neg, if_true, if_false, h1, q1, hv, an]
