/-! does a row fit: the reference's way, the class's way -/
def rowW (f : Nat → Int32) (w : Nat → Nat) (k : Nat) : Prop := ∀ j, j < k → f j = Int32.ofInt (w j : Int) ∧ w j < 9
theorem df35 {F : Nat} (hF : 100 ≤ F) {s : MS} {r : Nat → Int32} (h : ROK r) (hr : s.2.2.1 15 = r) {w : Nat → Nat} {k : Nat} (hk : k ≤ 9) (hw : rowW (s.2.2.1 33) w k) {i g x : Nat} (hi : i < k) (hg : g < rR r) (hx : x ≤ nT r) (rc : Int32 → Int32 → Int32 → Int32 → Option Int32) (G : Nat → Bool) (hrc : ∀ y, y ≤ nT r → rc (Int32.ofInt (k : Int)) (Int32.ofInt (i : Int)) (Int32.ofInt ((g : Int) + 1)) (Int32.ofInt (y : Int)) = some (Int32.ofInt (fI (G y)))) :
    f_X11_doesFit_35 F s (Int32.ofInt (k : Int)) (Int32.ofInt (i : Int)) (Int32.ofInt (g : Int)) (Int32.ofInt (x : Int)) rc F 0 = some (Int32.ofInt (fI (byP (nT r) (rd r (11 + 3 * w i)) (pe r g) G x || byP (nT r) (rd r (12 + 3 * w i)) (pe r g) G x))) := by
  obtain ⟨c1, c2, c3, c4, c5⟩ := nTP h
  obtain ⟨t0, t1, t2, t3, t4, t5, t8, t9⟩ := ROKb h
  have hR5 : rR r ≤ 5 := by unfold rR; omega
  obtain ⟨wi, w9⟩ := hw i hi
  obtain ⟨p1, p2, p3, p4, p5⟩ := pl_b h hg
  obtain ⟨a1, a2, -⟩ := A11_pump (F := F) hr w9
  have pb := pumpB h w9
  have r0 : s.2.2.1 15 0 = Int32.ofInt (rd r 0) := by rw [hr]; exact rd_e r 0
  have i210 : (209 + 2 * (g : Int) + 1).toNat = 210 + 2 * g := by omega
  have rp : s.2.2.1 15 (210 + 2 * g) = Int32.ofInt (pe r g) := by rw [hr]; exact p5
  -- one price
  have step : ∀ (n : Nat) (q : Nat) (price : Int), q < 2 → 0 ≤ price → price ≤ 99 → f_X11_pumpOf F s (Int32.ofInt (w i : Int)) (Int32.ofInt (q : Int)) = some (Int32.ofInt price) → f_X11_doesFit_35 F s (Int32.ofInt (k : Int)) (Int32.ofInt (i : Int)) (Int32.ofInt (g : Int)) (Int32.ofInt (x : Int)) rc (n + 1) (Int32.ofInt (q : Int)) = if byP (nT r) price (pe r g) G x = true then some (Int32.ofInt 1) else f_X11_doesFit_35 F s (Int32.ofInt (k : Int)) (Int32.ofInt (i : Int)) (Int32.ofInt (g : Int)) (Int32.ofInt (x : Int)) rc n (Int32.ofInt ((q : Int) + 1)) := by
    intro n q price hq hp0 hp1 hpu
    rw [f_X11_doesFit_35]
    unfold byP
    by_cases c0 : price ≤ 0
    · have : bq price (pe r g) = none := by unfold bq; rw [if_pos c0]
      rw [this]
      simp (disch := omega) only [z_0, z_1, z_2, z_3, z_4, z_5, z_6, z_7, z_8, z_9, z_10, z_11, z_12, z_14, z_18, z_20, z_22, z_24, z_32, z_38, z_40, z_41, z_44, z_48, z_49, z_57, z_59, z_60, z_63, z_65, z_74, z_75, z_81, z_97, z_99, z_104, z_115, z_119, z_122, z_200, z_209, z_210, z_219, z_228, z_255, z_300, z_369, z_999, z_65537, z_268435456, z_1000000000, n_nat, n_add, n_sub, n_mul, n_neg, n_lt, n_le, n_eq, n_ix, n_gd, n_nz, lz_t, bd_some, tn, Int.reduceToNat, tn_1, if_pos, if_neg, if_true, if_false, wi, hpu, i210, rp, f_X11_doesFit_123, Bool.false_eq_true]
    · have q0 : 0 ≤ pe r g / price := Int.ediv_nonneg (by omega) (by omega)
      have q1 : pe r g / price ≤ pe r g := Int.ediv_le_self _ (by omega)
      have q2 : pe r g / price * price ≤ pe r g := Int.ediv_mul_le _ (by omega)
      have q3 : 0 ≤ pe r g / price * price := Int.mul_nonneg q0 (by omega)
      by_cases cd : pe r g - pe r g / price * price = 0
      · have : bq price (pe r g) = some (pe r g / price).toNat := by unfold bq; rw [if_neg c0, if_pos cd]
        rw [this]
        have ex : (x : Int) + pe r g / price = ((x + (pe r g / price).toNat : Nat) : Int) := by omega
        show _ = if (decide (x + (pe r g / price).toNat ≤ nT r) && G (x + (pe r g / price).toNat)) = true then _ else _
        by_cases cT : x + (pe r g / price).toNat ≤ nT r
        · have rcy := hrc (x + (pe r g / price).toNat) cT
          rw [decide_eq_true cT, Bool.true_and]
          cases cG : G (x + (pe r g / price).toNat) with
          | true =>
            rw [cG] at rcy
            simp (disch := omega) only [z_0, z_1, z_2, z_3, z_4, z_5, z_6, z_7, z_8, z_9, z_10, z_11, z_12, z_14, z_18, z_20, z_22, z_24, z_32, z_38, z_40, z_41, z_44, z_48, z_49, z_57, z_59, z_60, z_63, z_65, z_74, z_75, z_81, z_97, z_99, z_104, z_115, z_119, z_122, z_200, z_209, z_210, z_219, z_228, z_255, z_300, z_369, z_999, z_65537, z_268435456, z_1000000000, n_nat, n_add, n_sub, n_mul, n_neg, n_lt, n_le, n_eq, n_ix, n_gd, n_nz, lz_t, bd_some, tn, Int.reduceToNat, tn_1, if_pos, if_neg, if_true, if_false, n_div, wi, hpu, i210, rp, cd, r0, ex, rcy, fI, f_X11_doesFit_123]
          | false =>
            rw [cG] at rcy
            simp (disch := omega) only [z_0, z_1, z_2, z_3, z_4, z_5, z_6, z_7, z_8, z_9, z_10, z_11, z_12, z_14, z_18, z_20, z_22, z_24, z_32, z_38, z_40, z_41, z_44, z_48, z_49, z_57, z_59, z_60, z_63, z_65, z_74, z_75, z_81, z_97, z_99, z_104, z_115, z_119, z_122, z_200, z_209, z_210, z_219, z_228, z_255, z_300, z_369, z_999, z_65537, z_268435456, z_1000000000, n_nat, n_add, n_sub, n_mul, n_neg, n_lt, n_le, n_eq, n_ix, n_gd, n_nz, lz_t, bd_some, tn, Int.reduceToNat, tn_1, if_pos, if_neg, if_true, if_false, n_div, wi, hpu, i210, rp, cd, r0, ex, rcy, fI, f_X11_doesFit_123, Bool.false_eq_true]
        · rw [decide_eq_false cT, Bool.false_and]
          simp (disch := omega) only [z_0, z_1, z_2, z_3, z_4, z_5, z_6, z_7, z_8, z_9, z_10, z_11, z_12, z_14, z_18, z_20, z_22, z_24, z_32, z_38, z_40, z_41, z_44, z_48, z_49, z_57, z_59, z_60, z_63, z_65, z_74, z_75, z_81, z_97, z_99, z_104, z_115, z_119, z_122, z_200, z_209, z_210, z_219, z_228, z_255, z_300, z_369, z_999, z_65537, z_268435456, z_1000000000, n_nat, n_add, n_sub, n_mul, n_neg, n_lt, n_le, n_eq, n_ix, n_gd, n_nz, lz_t, bd_some, tn, Int.reduceToNat, tn_1, if_pos, if_neg, if_true, if_false, n_div, wi, hpu, i210, rp, cd, r0, ex, f_X11_doesFit_123, Bool.false_eq_true]
      · have : bq price (pe r g) = none := by unfold bq; rw [if_neg c0, if_neg cd]
        rw [this]
        simp (disch := omega) only [z_0, z_1, z_2, z_3, z_4, z_5, z_6, z_7, z_8, z_9, z_10, z_11, z_12, z_14, z_18, z_20, z_22, z_24, z_32, z_38, z_40, z_41, z_44, z_48, z_49, z_57, z_59, z_60, z_63, z_65, z_74, z_75, z_81, z_97, z_99, z_104, z_115, z_119, z_122, z_200, z_209, z_210, z_219, z_228, z_255, z_300, z_369, z_999, z_65537, z_268435456, z_1000000000, n_nat, n_add, n_sub, n_mul, n_neg, n_lt, n_le, n_eq, n_ix, n_gd, n_nz, lz_t, bd_some, tn, Int.reduceToNat, tn_1, if_pos, if_neg, if_true, if_false, n_div, wi, hpu, i210, rp, f_X11_doesFit_123, Bool.false_eq_true]
  obtain ⟨F', rfl⟩ : ∃ F', F = F' + 3 := ⟨F - 3, by omega⟩
  have s1 := step (F' + 2) 0 _ (by omega) pb.1.1 pb.1.2 a1
  have s2 := step (F' + 1) 1 _ (by omega) pb.2.1.1 pb.2.1.2 a2
  have s3 : f_X11_doesFit_35 (F' + 3) s (Int32.ofInt (k : Int)) (Int32.ofInt (i : Int)) (Int32.ofInt (g : Int)) (Int32.ofInt (x : Int)) rc (F' + 1) (Int32.ofInt (((1 : Nat) : Int) + 1)) = some (Int32.ofInt 0) := by
    rw [f_X11_doesFit_35]
    simp (disch := omega) only [z_0, z_1, z_2, z_3, z_4, z_5, z_6, z_7, z_8, z_9, z_10, z_11, z_12, z_14, z_18, z_20, z_22, z_24, z_32, z_38, z_40, z_41, z_44, z_48, z_49, z_57, z_59, z_60, z_63, z_65, z_74, z_75, z_81, z_97, z_99, z_104, z_115, z_119, z_122, z_200, z_209, z_210, z_219, z_228, z_255, z_300, z_369, z_999, z_65537, z_268435456, z_1000000000, n_nat, n_add, n_sub, n_mul, n_neg, n_lt, n_le, n_eq, n_ix, n_gd, n_nz, lz_t, bd_some, tn, Int.reduceToNat, tn_1, if_pos, if_neg, if_true, if_false]
  rw [s3] at s2
  have s1' : f_X11_doesFit_35 (F' + 3) s (Int32.ofInt (k : Int)) (Int32.ofInt (i : Int)) (Int32.ofInt (g : Int)) (Int32.ofInt (x : Int)) rc (F' + 3) 0 = if byP (nT r) (rd r (11 + 3 * w i)) (pe r g) G x = true then some (Int32.ofInt 1) else f_X11_doesFit_35 (F' + 3) s (Int32.ofInt (k : Int)) (Int32.ofInt (i : Int)) (Int32.ofInt (g : Int)) (Int32.ofInt (x : Int)) rc (F' + 2) (Int32.ofInt ((1 : Nat) : Int)) := s1
  rw [s1', s2]
  cases byP (nT r) (rd r (11 + 3 * w i)) (pe r g) G x <;> cases byP (nT r) (rd r (12 + 3 * w i)) (pe r g) G x <;> rfl
theorem df_go {F : Nat} (hF : 100 ≤ F) {s : MS} {r : Nat → Int32} (h : ROK r) (hr : s.2.2.1 15 = r) {w : Nat → Nat} {k : Nat} (hk : k ≤ 9) (hw : rowW (s.2.2.1 33) w k) : ∀ (m d i g x : Nat), m = k - 1 - i + (rR r - g) + 1 → m ≤ d → i < k → g ≤ rR r → x ≤ nT r → f_X11_doesFit F s d (Int32.ofInt (k : Int)) (Int32.ofInt (i : Int)) (Int32.ofInt (g : Int)) (Int32.ofInt (x : Int)) = some (Int32.ofInt (fI (fit r w k m i g x))) := by
  obtain ⟨c1, c2, c3, c4, c5⟩ := nTP h
  obtain ⟨t0, t1, t2, t3, t4, t5, t8, t9⟩ := ROKb h
  have hR5 : rR r ≤ 5 ∧ ((rR r : Nat) : Int) = rd r 9 := by unfold rR; omega
  have r9 : s.2.2.1 15 9 = Int32.ofInt (rd r 9) := by rw [hr]; exact rd_e r 9
  intro m
  induction m with
  | zero => intro d i g x hm; omega
  | succ m ih =>
    intro d i g x hm hd hi hg hx
    cases d with
    | zero => omega
    | succ d =>
      obtain ⟨wi, w9⟩ := hw i hi
      have e131 : (¬ (g < rR r ∧ pl r g = w i)) → f_X11_doesFit_131 F s (Int32.ofInt (k : Int)) (Int32.ofInt (i : Int)) (Int32.ofInt (g : Int)) (Int32.ofInt (x : Int)) (f_X11_doesFit F s d) = some (Int32.ofInt (fI (fit r w k (m + 1) i g x))) := by
        intro hno
        rw [fit_s, if_neg hno]
        unfold f_X11_doesFit_131
        by_cases ck : i + 1 = k
        · rw [if_pos ck]
          by_cases cg : g = rR r
          · rw [decide_eq_true cg]
            simp (disch := omega) only [z_0, z_1, z_2, z_3, z_4, z_5, z_6, z_7, z_8, z_9, z_10, z_11, z_12, z_14, z_18, z_20, z_22, z_24, z_32, z_38, z_40, z_41, z_44, z_48, z_49, z_57, z_59, z_60, z_63, z_65, z_74, z_75, z_81, z_97, z_99, z_104, z_115, z_119, z_122, z_200, z_209, z_210, z_219, z_228, z_255, z_300, z_369, z_999, z_65537, z_268435456, z_1000000000, n_nat, n_add, n_sub, n_mul, n_neg, n_lt, n_le, n_eq, n_ix, n_gd, n_nz, lz_t, bd_some, tn, Int.reduceToNat, tn_1, if_pos, if_neg, if_true, if_false, r9, fI]
          · rw [decide_eq_false cg]
            simp (disch := omega) only [z_0, z_1, z_2, z_3, z_4, z_5, z_6, z_7, z_8, z_9, z_10, z_11, z_12, z_14, z_18, z_20, z_22, z_24, z_32, z_38, z_40, z_41, z_44, z_48, z_49, z_57, z_59, z_60, z_63, z_65, z_74, z_75, z_81, z_97, z_99, z_104, z_115, z_119, z_122, z_200, z_209, z_210, z_219, z_228, z_255, z_300, z_369, z_999, z_65537, z_268435456, z_1000000000, n_nat, n_add, n_sub, n_mul, n_neg, n_lt, n_le, n_eq, n_ix, n_gd, n_nz, lz_t, bd_some, tn, Int.reduceToNat, tn_1, if_pos, if_neg, if_true, if_false, r9, fI, Bool.false_eq_true]
        · rw [if_neg ck]
          obtain ⟨wj, w9'⟩ := hw (i + 1) (by omega)
          have tb := tk_b h w9 w9'
          have ei : ((i : Int) + 1).toNat = i + 1 := rfl
          have Br : f_X11_roadOf F s (Int32.ofInt (w i : Int)) (Int32.ofInt (w (i + 1) : Int)) = some (Int32.ofInt (tk r (w i) (w (i + 1)))) := B_road hr w9 w9'
          by_cases ct : tk r (w i) (w (i + 1)) ≤ (x : Int)
          · have nx := ih d (i + 1) g (x - (tk r (w i) (w (i + 1))).toNat) (by omega) (by omega) (by omega) hg (by omega)
            have ex : (x : Int) - tk r (w i) (w (i + 1)) = ((x - (tk r (w i) (w (i + 1))).toNat : Nat) : Int) := by omega
            have nx' : f_X11_doesFit F s d (Int32.ofInt (k : Int)) (Int32.ofInt ((i : Int) + 1)) (Int32.ofInt (g : Int)) (Int32.ofInt ((x - (tk r (w i) (w (i + 1))).toNat : Nat) : Int)) = _ := nx
            rw [decide_eq_true ct, Bool.true_and]
            cases cf : fit r w k m (i + 1) g (x - (tk r (w i) (w (i + 1))).toNat) with
            | true =>
              rw [cf] at nx'
              simp (disch := omega) only [z_0, z_1, z_2, z_3, z_4, z_5, z_6, z_7, z_8, z_9, z_10, z_11, z_12, z_14, z_18, z_20, z_22, z_24, z_32, z_38, z_40, z_41, z_44, z_48, z_49, z_57, z_59, z_60, z_63, z_65, z_74, z_75, z_81, z_97, z_99, z_104, z_115, z_119, z_122, z_200, z_209, z_210, z_219, z_228, z_255, z_300, z_369, z_999, z_65537, z_268435456, z_1000000000, n_nat, n_add, n_sub, n_mul, n_neg, n_lt, n_le, n_eq, n_ix, n_gd, n_nz, lz_t, bd_some, tn, Int.reduceToNat, tn_1, if_pos, if_neg, if_true, if_false, wi, wj, Br, ex, nx', fI]
            | false =>
              rw [cf] at nx'
              simp (disch := omega) only [z_0, z_1, z_2, z_3, z_4, z_5, z_6, z_7, z_8, z_9, z_10, z_11, z_12, z_14, z_18, z_20, z_22, z_24, z_32, z_38, z_40, z_41, z_44, z_48, z_49, z_57, z_59, z_60, z_63, z_65, z_74, z_75, z_81, z_97, z_99, z_104, z_115, z_119, z_122, z_200, z_209, z_210, z_219, z_228, z_255, z_300, z_369, z_999, z_65537, z_268435456, z_1000000000, n_nat, n_add, n_sub, n_mul, n_neg, n_lt, n_le, n_eq, n_ix, n_gd, n_nz, lz_t, bd_some, tn, Int.reduceToNat, tn_1, if_pos, if_neg, if_true, if_false, wi, wj, Br, ex, nx', fI, Bool.false_eq_true]
          · rw [decide_eq_false ct, Bool.false_and]
            simp (disch := omega) only [z_0, z_1, z_2, z_3, z_4, z_5, z_6, z_7, z_8, z_9, z_10, z_11, z_12, z_14, z_18, z_20, z_22, z_24, z_32, z_38, z_40, z_41, z_44, z_48, z_49, z_57, z_59, z_60, z_63, z_65, z_74, z_75, z_81, z_97, z_99, z_104, z_115, z_119, z_122, z_200, z_209, z_210, z_219, z_228, z_255, z_300, z_369, z_999, z_65537, z_268435456, z_1000000000, n_nat, n_add, n_sub, n_mul, n_neg, n_lt, n_le, n_eq, n_ix, n_gd, n_nz, lz_t, bd_some, tn, Int.reduceToNat, tn_1, if_pos, if_neg, if_true, if_false, wi, wj, Br, fI, Bool.false_eq_true]
      show f_X11_doesFit_b F s _ _ _ _ (f_X11_doesFit F s d) = _
      unfold f_X11_doesFit_b
      by_cases cg : g < rR r
      · obtain ⟨p1, p2, p3, p4, p5⟩ := pl_b h cg
        have i209 : (209 + 2 * (g : Int)).toNat = 209 + 2 * g := by omega
        have rp : s.2.2.1 15 (209 + 2 * g) = Int32.ofInt (pl r g : Int) := by rw [hr]; exact p2
        by_cases cp : pl r g = w i
        · have d35 := df35 (F := F) hF h hr hk hw hi cg hx (f_X11_doesFit F s d) (fit r w k m i (g + 1)) (fun y hy => ih d i (g + 1) y (by omega) (by omega) hi (by omega) hy)
          have d35' : f_X11_doesFit_35 F s (Int32.ofInt (k : Int)) (Int32.ofInt (i : Int)) (Int32.ofInt (g : Int)) (Int32.ofInt (x : Int)) (f_X11_doesFit F s d) F (Int32.ofInt 0) = _ := d35
          rw [fit_s, if_pos ⟨cg, cp⟩]
          simp (disch := omega) only [z_0, z_1, z_2, z_3, z_4, z_5, z_6, z_7, z_8, z_9, z_10, z_11, z_12, z_14, z_18, z_20, z_22, z_24, z_32, z_38, z_40, z_41, z_44, z_48, z_49, z_57, z_59, z_60, z_63, z_65, z_74, z_75, z_81, z_97, z_99, z_104, z_115, z_119, z_122, z_200, z_209, z_210, z_219, z_228, z_255, z_300, z_369, z_999, z_65537, z_268435456, z_1000000000, n_nat, n_add, n_sub, n_mul, n_neg, n_lt, n_le, n_eq, n_ix, n_gd, n_nz, lz_t, bd_some, tn, Int.reduceToNat, tn_1, if_pos, if_neg, if_true, if_false, r9, i209, rp, wi, d35']
        · have := e131 (fun z => cp z.2)
          simp (disch := omega) only [z_0, z_1, z_2, z_3, z_4, z_5, z_6, z_7, z_8, z_9, z_10, z_11, z_12, z_14, z_18, z_20, z_22, z_24, z_32, z_38, z_40, z_41, z_44, z_48, z_49, z_57, z_59, z_60, z_63, z_65, z_74, z_75, z_81, z_97, z_99, z_104, z_115, z_119, z_122, z_200, z_209, z_210, z_219, z_228, z_255, z_300, z_369, z_999, z_65537, z_268435456, z_1000000000, n_nat, n_add, n_sub, n_mul, n_neg, n_lt, n_le, n_eq, n_ix, n_gd, n_nz, lz_t, bd_some, tn, Int.reduceToNat, tn_1, if_pos, if_neg, if_true, if_false, r9, i209, rp, wi, this]
      · have := e131 (fun z => cg z.1)
        simp (disch := omega) only [z_0, z_1, z_2, z_3, z_4, z_5, z_6, z_7, z_8, z_9, z_10, z_11, z_12, z_14, z_18, z_20, z_22, z_24, z_32, z_38, z_40, z_41, z_44, z_48, z_49, z_57, z_59, z_60, z_63, z_65, z_74, z_75, z_81, z_97, z_99, z_104, z_115, z_119, z_122, z_200, z_209, z_210, z_219, z_228, z_255, z_300, z_369, z_999, z_65537, z_268435456, z_1000000000, n_nat, n_add, n_sub, n_mul, n_neg, n_lt, n_le, n_eq, n_ix, n_gd, n_nz, lz_t, bd_some, tn, Int.reduceToNat, tn_1, if_pos, if_neg, if_true, if_false, r9, this]
theorem df_e {F : Nat} (hF : 100 ≤ F) {s : MS} {r : Nat → Int32} (h : ROK r) (hr : s.2.2.1 15 = r) {w : Nat → Nat} {k : Nat} (hk : k ≤ 9) (hk1 : 1 ≤ k) (hw : rowW (s.2.2.1 33) w k) {x : Nat} (hx : x ≤ nT r) : f_X11_doesFit F s 20 (Int32.ofInt (k : Int)) 0 0 (Int32.ofInt (x : Int)) = some (Int32.ofInt (fI (Fi r w k 0 0 x))) := by
  obtain ⟨t0, t1, t2, t3, t4, t5, t8, t9⟩ := ROKb h
  have hR5 : rR r ≤ 5 := by unfold rR; omega
  exact df_go hF h hr hk hw (k - 1 - 0 + (rR r - 0) + 1) 20 0 0 x rfl (by omega) (by omega) (by omega) hx
/-! the class's: from the end back -/
def lvl (r : Nat → Int32) (L : Int64) (P : Nat → Bool) : Prop := ∀ x, x < 64 → b64 L x = (decide (x ≤ nT r) && P x)
theorem before_e {F : Nat} {r : Nat → Int32} (h : ROK r) {L : Int64} {P : Nat → Bool} (hL : lvl r L P) {price pence : Int} (p1 : 0 ≤ price) (p2 : price ≤ 99) (q1 : 1 ≤ pence) (q2 : pence ≤ 999) : ∃ L', f_X8_beforeBuying F (Int32.ofInt pence) (Int32.ofInt price) L = some L' ∧ lvl r L' (byP (nT r) price pence P) := by
  obtain ⟨c1, c2, c3, c4, c5⟩ := nTP h
  have no : ∀ x, byP (nT r) price pence P x = false → (decide (x ≤ nT r) && byP (nT r) price pence P x) = false := fun x hx => by rw [hx, Bool.and_false]
  unfold f_X8_beforeBuying
  by_cases c0 : price = 0
  · refine ⟨0, ?_, ?_⟩
    · simp (disch := omega) only [z_0, z_1, z_2, z_3, z_4, z_5, z_6, z_7, z_8, z_9, z_10, z_11, z_12, z_14, z_18, z_20, z_22, z_24, z_32, z_38, z_40, z_41, z_44, z_48, z_49, z_57, z_59, z_60, z_63, z_65, z_74, z_75, z_81, z_97, z_99, z_104, z_115, z_119, z_122, z_200, z_209, z_210, z_219, z_228, z_255, z_300, z_369, z_999, z_65537, z_268435456, z_1000000000, n_nat, n_add, n_sub, n_mul, n_neg, n_lt, n_le, n_eq, n_ix, n_gd, n_nz, lz_t, bd_some, tn, Int.reduceToNat, tn_1, if_pos, if_neg, if_true, if_false]
    · intro x hx
      rw [b64_0]
      unfold byP bq
      rw [if_pos (by omega), Bool.and_false]
  · have q0 : 0 ≤ pence / price := Int.ediv_nonneg (by omega) (by omega)
    have q1' : pence / price ≤ pence := Int.ediv_le_self _ (by omega)
    have q2' : pence / price * price ≤ pence := Int.ediv_mul_le _ (by omega)
    have q3 : 0 ≤ pence / price * price := Int.mul_nonneg q0 (by omega)
    by_cases cd : pence - pence / price * price = 0
    · have eb : bq price pence = some (pence / price).toNat := by unfold bq; rw [if_neg (by omega), if_pos cd]
      by_cases c40 : pence / price ≤ 40
      · obtain ⟨n, hn⟩ := toN q0
        refine ⟨L >>> ((Int32.ofInt (n : Int)).toInt64 &&& 63), ?_, ?_⟩
        · rw [hn] at cd
          simp (disch := omega) only [z_0, z_1, z_2, z_3, z_4, z_5, z_6, z_7, z_8, z_9, z_10, z_11, z_12, z_14, z_18, z_20, z_22, z_24, z_32, z_38, z_40, z_41, z_44, z_48, z_49, z_57, z_59, z_60, z_63, z_65, z_74, z_75, z_81, z_97, z_99, z_104, z_115, z_119, z_122, z_200, z_209, z_210, z_219, z_228, z_255, z_300, z_369, z_999, z_65537, z_268435456, z_1000000000, n_nat, n_add, n_sub, n_mul, n_neg, n_lt, n_le, n_eq, n_ix, n_gd, n_nz, lz_t, bd_some, tn, Int.reduceToNat, tn_1, if_pos, if_neg, if_true, if_false, n_div, hn, cd]
        · intro x hx
          rw [b64_shr L (by omega)]
          unfold byP
          rw [eb, hn]
          show _ = (decide (x ≤ nT r) && (decide (x + n ≤ nT r) && P (x + n)))
          have hx' : (!decide (64 ≤ x)) = true := by simp; omega
          rw [hx', Bool.true_and]
          by_cases c64 : n + x < 64
          · rw [if_pos c64, hL _ c64, show n + x = x + n by omega]
            by_cases cT : x + n ≤ nT r
            · rw [decide_eq_true cT, decide_eq_true (show x ≤ nT r by omega), Bool.true_and, Bool.true_and]
            · rw [decide_eq_false cT, Bool.false_and, Bool.and_false]
          · rw [if_neg c64, hL 63 (by omega), decide_eq_false (show ¬ 63 ≤ nT r by omega), Bool.false_and, decide_eq_false (show ¬ x + n ≤ nT r by omega), Bool.false_and, Bool.and_false]
      · refine ⟨0, ?_, ?_⟩
        · simp (disch := omega) only [z_0, z_1, z_2, z_3, z_4, z_5, z_6, z_7, z_8, z_9, z_10, z_11, z_12, z_14, z_18, z_20, z_22, z_24, z_32, z_38, z_40, z_41, z_44, z_48, z_49, z_57, z_59, z_60, z_63, z_65, z_74, z_75, z_81, z_97, z_99, z_104, z_115, z_119, z_122, z_200, z_209, z_210, z_219, z_228, z_255, z_300, z_369, z_999, z_65537, z_268435456, z_1000000000, n_nat, n_add, n_sub, n_mul, n_neg, n_lt, n_le, n_eq, n_ix, n_gd, n_nz, lz_t, bd_some, tn, Int.reduceToNat, tn_1, if_pos, if_neg, if_true, if_false, n_div, cd, y_0]
        · intro x hx
          rw [b64_0]
          unfold byP
          rw [eb]
          show false = (decide (x ≤ nT r) && (decide (x + (pence / price).toNat ≤ nT r) && P (x + (pence / price).toNat)))
          rw [decide_eq_false (show ¬ x + (pence / price).toNat ≤ nT r by omega), Bool.false_and, Bool.and_false]
    · have eb : bq price pence = none := by unfold bq; rw [if_neg (by omega), if_neg cd]
      refine ⟨0, ?_, ?_⟩
      · simp (disch := omega) only [z_0, z_1, z_2, z_3, z_4, z_5, z_6, z_7, z_8, z_9, z_10, z_11, z_12, z_14, z_18, z_20, z_22, z_24, z_32, z_38, z_40, z_41, z_44, z_48, z_49, z_57, z_59, z_60, z_63, z_65, z_74, z_75, z_81, z_97, z_99, z_104, z_115, z_119, z_122, z_200, z_209, z_210, z_219, z_228, z_255, z_300, z_369, z_999, z_65537, z_268435456, z_1000000000, n_nat, n_add, n_sub, n_mul, n_neg, n_lt, n_le, n_eq, n_ix, n_gd, n_nz, lz_t, bd_some, tn, Int.reduceToNat, tn_1, if_pos, if_neg, if_true, if_false, n_div, y_0]
      · intro x hx
        rw [b64_0]
        unfold byP
        rw [eb]
        show false = (decide (x ≤ nT r) && false)
        rw [Bool.and_false]
