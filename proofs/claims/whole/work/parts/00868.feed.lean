/-! feed: bytes -/
def byR (c t : Int32) : Prop := ∃ b : Nat, b < 256 ∧ t = Int32.ofInt (b : Int) ∧ c = Int32.ofInt (if b < 128 then (b : Int) else (b : Int) - 256)
theorem nar_b (v : Int32) : vp_nar .byte v = v.toInt8.toInt32 := rfl
theorem byR_v (v : Int32) : byR (vp_nar .byte v.toInt8.toInt32) (v &&& 255) := by
  rw [nar_b]
  have hx : v.toInt8.toInt32.toInt8 = v.toInt8 := by simp
  rw [hx]
  refine ⟨v.toBitVec.toNat % 256, Nat.mod_lt _ (by decide), ?_, ?_⟩
  · rw [← Int32.toBitVec_inj, Int32.toBitVec_and]
    apply BitVec.eq_of_toNat_eq
    rw [BitVec.toNat_and]
    have : (255 : Int32).toBitVec.toNat = 2 ^ 8 - 1 := rfl
    rw [this, Nat.and_two_pow_sub_one_eq_mod]
    have h2 : (Int32.ofInt ((v.toBitVec.toNat % 256 : Nat) : Int)).toBitVec = BitVec.ofInt 32 ((v.toBitVec.toNat % 256 : Nat) : Int) := rfl
    rw [h2, BitVec.toNat_ofInt]
    omega
  · rw [i_eq, Int8.toInt_toInt32]
    have hb : v.toInt8.toBitVec.toNat = v.toBitVec.toNat % 256 := by
      have : v.toInt8.toBitVec = v.toBitVec.signExtend 8 := rfl
      rw [this, BitVec.signExtend_eq_setWidth_of_le _ (by decide), BitVec.toNat_setWidth]
    have hi : v.toInt8.toInt = v.toInt8.toBitVec.toInt := rfl
    rw [hi, BitVec.toInt_eq_toNat_cond, hb]
    have : (Int32.ofInt (if v.toBitVec.toNat % 256 < 128 then ((v.toBitVec.toNat % 256 : Nat) : Int) else ((v.toBitVec.toNat % 256 : Nat) : Int) - 256)).toInt = (if v.toBitVec.toNat % 256 < 128 then ((v.toBitVec.toNat % 256 : Nat) : Int) else ((v.toBitVec.toNat % 256 : Nat) : Int) - 256) := by
      apply n_toI
      · split <;> omega
      · split <;> omega
    rw [this]
    split <;> split <;> omega
theorem uN_2 {α : Type} (f : Nat → α) (k : Nat) (a b : α) : uN (uN f k a) k b = uN f k b := by
  funext j
  by_cases c : j = k
  · subst c; rw [uN_s, uN_s]
  · rw [uN_n _ _ _ _ c, uN_n _ _ _ _ c, uN_n _ _ _ _ c]
theorem sI_2x (s : MS) (k : Nat) (a b : Int32) : sI (sI s k a) k b = sI s k b := by
  unfold sI
  rw [uN_2]
def shB (w : Int32) (i : Nat) : Int32 := w >>> (Int32.ofInt (24 - 8 * (i : Int)) &&& 31)
theorem put_go {F : Nat} {w : Int32} {sMn : MS} {t : Nat} (ht : t + 4 ≤ 800) : ∀ (d i n : Nat) (v : Int32) (f : Nat → Int32), i + d = 4 → d < n → v = Int32.ofInt ((t : Int) + (i : Int)) → ∃ f', f_X10_putBytes_3 F 800 w n (Int32.ofInt (24 - 8 * (i : Int))) (sI sMn 1 v) f = some (sI sMn 1 (Int32.ofInt ((t : Int) + 4)), f') ∧ (∀ k, k < t + i → f' k = f k) ∧ (∀ j, i ≤ j → j < 4 → f' (t + j) = vp_nar .byte (shB w j).toInt8.toInt32) := by
  intro d
  induction d with
  | zero =>
    intro i n v f hi hn hv
    cases n with
    | zero => omega
    | succ n =>
      have : i = 4 := by omega
      subst this
      subst hv
      refine ⟨f, ?_, fun _ _ => rfl, fun j h1 h2 => by omega⟩
      rw [f_X10_putBytes_3, if_pos (by decide)]
      rfl
  | succ d ih =>
    intro i n v f hi hn hv
    cases n with
    | zero => omega
    | succ n =>
      obtain ⟨f', z1, z2, z3⟩ := ih (i + 1) n (Int32.ofInt ((t : Int) + ((i + 1 : Nat) : Int))) (upd f (t + i) (vp_nar .byte (shB w i).toInt8.toInt32)) (by omega) (by omega) rfl
      refine ⟨f', ?_, ?_, ?_⟩
      · rw [f_X10_putBytes_3, hv]
        have e1 : (sI sMn 1 (Int32.ofInt ((t : Int) + (i : Int)))).1 1 = Int32.ofInt ((t : Int) + (i : Int)) := sI_s _ _ _
        have e2 : ((t : Int) + (i : Int)).toNat = t + i := by omega
        have e3 : (24 - 8 * (i : Int)) + -8 = 24 - 8 * ((i + 1 : Nat) : Int) := by omega
        have e4 : ((t : Int) + (i : Int)) + 1 = (t : Int) + ((i + 1 : Nat) : Int) := by omega
        have e5 : w >>> (Int32.ofInt (24 - 8 * (i : Int)) &&& 31) = shB w i := rfl
        have z8 : (-8 : Int32) = Int32.ofInt (-8) := rfl
        rw [e5]
        simp (disch := omega) only [z_0, z_1, z_2, z_3, z_4, z_5, z_6, z_7, z_8, z_9, z_10, z_11, z_12, z_14, z_18, z_20, z_22, z_24, z_32, z_38, z_40, z_41, z_44, z_48, z_49, z_57, z_59, z_60, z_63, z_65, z_74, z_75, z_81, z_97, z_99, z_104, z_115, z_119, z_122, z_200, z_209, z_210, z_219, z_228, z_255, z_300, z_369, z_999, z_65537, z_268435456, z_1000000000, n_nat, n_add, n_sub, n_mul, n_neg, n_lt, n_le, n_eq, n_ix, n_gd, n_nz, lz_t, bd_some, tn, Int.reduceToNat, tn_1, if_pos, if_neg, if_true, if_false, e1, e2, z8, e3, e4, sI_2x]
        exact z1
      · intro k hk
        rw [z2 k (by omega), up_n _ _ _ _ (by omega)]
      · intro j h1 h2
        by_cases c : j = i
        · subst c
          rw [z2 _ (by omega), up_s]
        · exact z3 j (by omega) h2
theorem put_w {F : Nat} (hF : 100 ≤ F) (w : Int32) {sMn : MS} {t : Nat} (ht : t + 4 ≤ 800) (v : Int32) (hv : v = Int32.ofInt (t : Int)) (f : Nat → Int32) : ∃ f', f_X10_putBytes F 800 w (sI sMn 1 v) f = some (sI sMn 1 (Int32.ofInt ((t + 4 : Nat) : Int)), f') ∧ (∀ k, k < t → f' k = f k) ∧ (∀ j, j < 4 → f' (t + j) = vp_nar .byte (shB w j).toInt8.toInt32) := by
  obtain ⟨f', z1, z2, z3⟩ := put_go (F := F) (w := w) (sMn := sMn) ht 4 0 F v f (by omega) (by omega) (by rw [hv]; congr 1)
  exact ⟨f', z1, fun k hk => z2 k (by omega), fun j hj => z3 j (by omega) hj⟩
theorem fd_sh : ∀ i, i < 20 → (24 : Int32) - 8 * (Int32.ofInt ((i : Nat) : Int) - Int32.ofInt (i : Int) / 4 * 4) = Int32.ofInt (24 - 8 * ((i % 4 : Nat) : Int)) := by decide
def wd5 (p1 p2 p3 p4 p5 : Int32) (q : Nat) : Int32 := if q = 0 then p1 else if q = 1 then p2 else if q = 2 then p3 else if q = 3 then p4 else p5
theorem fd_go {F : Nat} {p1 p2 p3 p4 p5 : Int32} {t : Nat} (ht : t + 20 ≤ 800) : ∀ (d i n : Nat) (s : MS), i + d = 20 → d < n → s.1 2 = Int32.ofInt ((t + i : Nat) : Int) → ∃ s', f_X11_feed_23 F p1 p2 p3 p4 p5 n (Int32.ofInt (i : Int)) s = some (Int32.ofInt ((t + 20 : Nat) : Int), s') ∧ s'.1 2 = Int32.ofInt ((t + 20 : Nat) : Int) ∧ (∀ k, k ≠ 2 → s'.1 k = s.1 k) ∧ (∀ a, a ≠ 1 → s'.2.2.1 a = s.2.2.1 a) ∧ (∀ k, k < t + i → s'.2.2.1 1 k = s.2.2.1 1 k) ∧ (∀ j, i ≤ j → j < 20 → s'.2.2.1 1 (t + j) = shB (wd5 p1 p2 p3 p4 p5 (j / 4)) (j % 4) &&& 255) := by
  intro d
  induction d with
  | zero =>
    intro i n s hi hn h2
    cases n with
    | zero => omega
    | succ n =>
      have : i = 20 := by omega
      subst this
      refine ⟨s, ?_, h2, fun _ _ => rfl, fun _ _ => rfl, fun _ _ => rfl, fun j h1 h2 => by omega⟩
      rw [f_X11_feed_23, if_pos (by decide), h2]
  | succ d ih =>
    intro i n s hi hn h2
    cases n with
    | zero => omega
    | succ n =>
      obtain ⟨s', z1, z2, z3, z4, z5, z6⟩ := ih (i + 1) n (sI (sA s 1 (t + i) (shB (wd5 p1 p2 p3 p4 p5 (i / 4)) (i % 4) &&& 255)) 2 (Int32.ofInt ((t + (i + 1) : Nat) : Int))) (by omega) (by omega) (sI_s _ _ _)
      have K : ∀ w, w = wd5 p1 p2 p3 p4 p5 (i / 4) → f_X11_feed_76 F p1 p2 p3 p4 p5 (f_X11_feed_23 F p1 p2 p3 p4 p5 n) (Int32.ofInt (i : Int)) w s = some (Int32.ofInt ((t + 20 : Nat) : Int), s') := by
        intro w hw
        subst hw
        unfold f_X11_feed_76
        have e1 := fd_sh i (by omega)
        have e5 : wd5 p1 p2 p3 p4 p5 (i / 4) >>> (Int32.ofInt (24 - 8 * ((i % 4 : Nat) : Int)) &&& 31) = shB (wd5 p1 p2 p3 p4 p5 (i / 4)) (i % 4) := rfl
        rw [lz_t, lz_t, e1, e5, h2]
        have e6 : (sA s 1 (t + i) (shB (wd5 p1 p2 p3 p4 p5 (i / 4)) (i % 4) &&& 255)).1 2 = Int32.ofInt ((t + i : Nat) : Int) := h2
        have e7 : ((t + i : Nat) : Int) + 1 = ((t + (i + 1) : Nat) : Int) := by omega
        have e8 : (i : Int) + 1 = ((i + 1 : Nat) : Int) := by omega
        rw [n_gd _ _ _ (by omega) (by omega) (by omega), n_ix _ (by omega) (by omega), tn, lz_t, e6, lz_t, lz_t, lz_t, z_1, n_add, n_add, e7, e8]
        exact z1
      refine ⟨s', ?_, z2, ?_, ?_, ?_, ?_⟩
      · rw [f_X11_feed_23]
        have e16 : (16 : Int32) = Int32.ofInt 16 := rfl
        by_cases c1 : i < 4
        · simp (disch := omega) only [z_0, z_1, z_2, z_3, z_4, z_5, z_6, z_7, z_8, z_9, z_10, z_11, z_12, z_14, z_18, z_20, z_22, z_24, z_32, z_38, z_40, z_41, z_44, z_48, z_49, z_57, z_59, z_60, z_63, z_65, z_74, z_75, z_81, z_97, z_99, z_104, z_115, z_119, z_122, z_200, z_209, z_210, z_219, z_228, z_255, z_300, z_369, z_999, z_65537, z_268435456, z_1000000000, n_nat, n_add, n_sub, n_mul, n_neg, n_lt, n_le, n_eq, n_ix, n_gd, n_nz, lz_t, bd_some, tn, Int.reduceToNat, tn_1, if_pos, if_neg, if_true, if_false]
          exact K _ (by unfold wd5; rw [if_pos (by omega)])
        · by_cases c2 : i < 8
          · simp (disch := omega) only [z_0, z_1, z_2, z_3, z_4, z_5, z_6, z_7, z_8, z_9, z_10, z_11, z_12, z_14, z_18, z_20, z_22, z_24, z_32, z_38, z_40, z_41, z_44, z_48, z_49, z_57, z_59, z_60, z_63, z_65, z_74, z_75, z_81, z_97, z_99, z_104, z_115, z_119, z_122, z_200, z_209, z_210, z_219, z_228, z_255, z_300, z_369, z_999, z_65537, z_268435456, z_1000000000, n_nat, n_add, n_sub, n_mul, n_neg, n_lt, n_le, n_eq, n_ix, n_gd, n_nz, lz_t, bd_some, tn, Int.reduceToNat, tn_1, if_pos, if_neg, if_true, if_false]
            exact K _ (by unfold wd5; rw [if_neg (by omega), if_pos (by omega)])
          · by_cases c3 : i < 12
            · simp (disch := omega) only [z_0, z_1, z_2, z_3, z_4, z_5, z_6, z_7, z_8, z_9, z_10, z_11, z_12, z_14, z_18, z_20, z_22, z_24, z_32, z_38, z_40, z_41, z_44, z_48, z_49, z_57, z_59, z_60, z_63, z_65, z_74, z_75, z_81, z_97, z_99, z_104, z_115, z_119, z_122, z_200, z_209, z_210, z_219, z_228, z_255, z_300, z_369, z_999, z_65537, z_268435456, z_1000000000, n_nat, n_add, n_sub, n_mul, n_neg, n_lt, n_le, n_eq, n_ix, n_gd, n_nz, lz_t, bd_some, tn, Int.reduceToNat, tn_1, if_pos, if_neg, if_true, if_false]
              exact K _ (by unfold wd5; rw [if_neg (by omega), if_neg (by omega), if_pos (by omega)])
            · by_cases c4 : i < 16
              · simp (disch := omega) only [z_0, z_1, z_2, z_3, z_4, z_5, z_6, z_7, z_8, z_9, z_10, z_11, z_12, z_14, z_18, z_20, z_22, z_24, z_32, z_38, z_40, z_41, z_44, z_48, z_49, z_57, z_59, z_60, z_63, z_65, z_74, z_75, z_81, z_97, z_99, z_104, z_115, z_119, z_122, z_200, z_209, z_210, z_219, z_228, z_255, z_300, z_369, z_999, z_65537, z_268435456, z_1000000000, n_nat, n_add, n_sub, n_mul, n_neg, n_lt, n_le, n_eq, n_ix, n_gd, n_nz, lz_t, bd_some, tn, Int.reduceToNat, tn_1, if_pos, if_neg, if_true, if_false, e16]
                exact K _ (by unfold wd5; rw [if_neg (by omega), if_neg (by omega), if_neg (by omega), if_pos (by omega)])
              · simp (disch := omega) only [z_0, z_1, z_2, z_3, z_4, z_5, z_6, z_7, z_8, z_9, z_10, z_11, z_12, z_14, z_18, z_20, z_22, z_24, z_32, z_38, z_40, z_41, z_44, z_48, z_49, z_57, z_59, z_60, z_63, z_65, z_74, z_75, z_81, z_97, z_99, z_104, z_115, z_119, z_122, z_200, z_209, z_210, z_219, z_228, z_255, z_300, z_369, z_999, z_65537, z_268435456, z_1000000000, n_nat, n_add, n_sub, n_mul, n_neg, n_lt, n_le, n_eq, n_ix, n_gd, n_nz, lz_t, bd_some, tn, Int.reduceToNat, tn_1, if_pos, if_neg, if_true, if_false, e16]
                exact K _ (by unfold wd5; rw [if_neg (by omega), if_neg (by omega), if_neg (by omega), if_neg (by omega)])
      · intro k hk
        rw [z3 k hk, sI_n _ _ _ _ hk]; rfl
      · intro a ha
        rw [z4 a ha]
        exact uN_n _ _ _ _ ha
      · intro k hk
        rw [z5 k (by omega)]
        show upd (s.2.2.1 1) (t + i) _ k = _
        rw [up_n _ _ _ _ (by omega)]
      · intro j h1 h2
        by_cases c : j = i
        · subst c
          rw [z5 _ (by omega)]
          show upd (s.2.2.1 1) (t + j) _ (t + j) = _
          rw [up_s]
        · exact z6 j (by omega) h2
def TAPE (sMn : MS) (f : Nat → Int32) (sMo : MS) : Prop := ∃ t : Nat, t ≤ 800 ∧ sMn.1 1 = Int32.ofInt (t : Int) ∧ sMo.1 2 = Int32.ofInt (t : Int) ∧ ∀ k, k < t → byR (f k) (sMo.2.2.1 1 k)
theorem sI_id (s : MS) (k : Nat) (v : Int32) (h : s.1 k = v) : sI s k v = s := by
  have : uN s.1 k v = s.1 := by
    funext j
    by_cases c : j = k
    · subst c; rw [uN_s, h]
    · rw [uN_n _ _ _ _ c]
  unfold sI
  rw [this]
theorem P_feed {F : Nat} (hF : 100 ≤ F) {sMn sMo : MS} {f : Nat → Int32} (hT : TAPE sMn f sMo) (p1 p2 p3 p4 p5 : Int32) :
    ∃ v x f' sMo', f_X10_feed F 800 p1 p2 p3 p4 p5 sMn f = some (v, sI sMn 1 x, f') ∧ f_X11_feed F p1 p2 p3 p4 p5 sMo = some (v, sMo') ∧ TAPE (sI sMn 1 x) f' sMo' ∧ sMo'.1 0 = 0 ∧ (∀ k, k ≠ 0 → k ≠ 2 → sMo'.1 k = sMo.1 k) ∧ (∀ a, a ≠ 1 → sMo'.2.2.1 a = sMo.2.2.1 a) := by
  obtain ⟨t, t1, t2, t3, t4⟩ := hT
  have z800 : (800 : Int32) = Int32.ofInt 800 := rfl
  have s2 : (sI sMo 0 0).1 2 = Int32.ofInt (t : Int) := by rw [sI_n _ _ _ _ (by decide), t3]
  unfold f_X10_feed f_X11_feed
  by_cases c : t + 20 ≤ 800
  · obtain ⟨f1, a1, a2, a3⟩ := put_w (F := F) hF p1 (sMn := sMn) (t := t) (by omega) _ rfl f
    obtain ⟨f2, b1, b2, b3⟩ := put_w (F := F) hF p2 (sMn := sMn) (t := t + 4) (by omega) _ rfl f1
    obtain ⟨f3, c1, c2, c3⟩ := put_w (F := F) hF p3 (sMn := sMn) (t := t + 4 + 4) (by omega) _ rfl f2
    obtain ⟨f4, d1, d2, d3⟩ := put_w (F := F) hF p4 (sMn := sMn) (t := t + 4 + 4 + 4) (by omega) _ rfl f3
    obtain ⟨f5, e1, e2, e3⟩ := put_w (F := F) hF p5 (sMn := sMn) (t := t + 4 + 4 + 4 + 4) (by omega) _ rfl f4
    rw [sI_id sMn 1 _ t2] at a1
    obtain ⟨s', z1, z2, z3, z4, z5, z6⟩ := fd_go (F := F) (p1 := p1) (p2 := p2) (p3 := p3) (p4 := p4) (p5 := p5) c 20 0 F (sI sMo 0 0) (by omega) (by omega) s2
    have hv : (sI sMn 1 (Int32.ofInt ((t + 4 + 4 + 4 + 4 + 4 : Nat) : Int))).1 1 = Int32.ofInt ((t + 20 : Nat) : Int) := by rw [sI_s]
    refine ⟨Int32.ofInt ((t + 20 : Nat) : Int), Int32.ofInt ((t + 4 + 4 + 4 + 4 + 4 : Nat) : Int), f5, s', ?_, ?_, ⟨t + 20, c, hv, z2, ?_⟩, ?_, ?_, ?_⟩
    · rw [t2, z800, z_20, n_add, if_pos (by rw [n_le _ _ (by omega) (by omega) (by omega) (by omega)]; omega), a1, bd_some, b1, bd_some, c1, bd_some, d1, bd_some, e1, bd_some, hv]
    · rw [lz_t, s2, z800, z_20, n_add, if_pos (by rw [n_le _ _ (by omega) (by omega) (by omega) (by omega)]; omega)]
      exact z1
    · intro k hk
      by_cases h0 : k < t
      · rw [e2 k (by omega), d2 k (by omega), c2 k (by omega), b2 k (by omega), a2 k h0, z5 k (by omega)]
        exact t4 k h0
      · obtain ⟨j, rfl⟩ : ∃ j, k = t + j := ⟨k - t, by omega⟩
        rw [z6 j (by omega) (by omega)]
        have q : ∀ w i, f5 (t + j) = vp_nar .byte (shB w i).toInt8.toInt32 → wd5 p1 p2 p3 p4 p5 (j / 4) = w → j % 4 = i → byR (f5 (t + j)) (shB (wd5 p1 p2 p3 p4 p5 (j / 4)) (j % 4) &&& 255) := by
          intro w i h1 h2 h3
          rw [h1, h2, h3]
          exact byR_v _
        by_cases g1 : j < 4
        · exact q p1 j (by rw [e2 _ (by omega), d2 _ (by omega), c2 _ (by omega), b2 _ (by omega), a3 j g1]) (by unfold wd5; rw [if_pos (by omega)]) (by omega)
        · by_cases g2 : j < 8
          · exact q p2 (j - 4) (by rw [e2 _ (by omega), d2 _ (by omega), c2 _ (by omega), ← b3 (j - 4) (by omega)]; congr 1; omega) (by unfold wd5; rw [if_neg (by omega), if_pos (by omega)]) (by omega)
          · by_cases g3 : j < 12
            · exact q p3 (j - 8) (by rw [e2 _ (by omega), d2 _ (by omega), ← c3 (j - 8) (by omega)]; congr 1; omega) (by unfold wd5; rw [if_neg (by omega), if_neg (by omega), if_pos (by omega)]) (by omega)
            · by_cases g4 : j < 16
              · exact q p4 (j - 12) (by rw [e2 _ (by omega), ← d3 (j - 12) (by omega)]; congr 1; omega) (by unfold wd5; rw [if_neg (by omega), if_neg (by omega), if_neg (by omega), if_pos (by omega)]) (by omega)
              · exact q p5 (j - 16) (by rw [← e3 (j - 16) (by omega)]; congr 1; omega) (by unfold wd5; rw [if_neg (by omega), if_neg (by omega), if_neg (by omega), if_neg (by omega)]) (by omega)
    · rw [z3 0 (by decide)]; rfl
    · intro k h0 h2
      rw [z3 k h2, sI_n _ _ _ _ h0]
    · intro a ha
      rw [z4 a ha]; rfl
  · refine ⟨-1, Int32.ofInt (t : Int), f, sI sMo 0 0, ?_, ?_, ⟨t, t1, sI_s _ _ _, s2, t4⟩, rfl, fun k h0 _ => sI_n _ _ _ _ h0, fun _ _ => rfl⟩
    · rw [sI_id sMn 1 _ t2, t2, z800, z_20, n_add, if_neg (by rw [n_le _ _ (by omega) (by omega) (by omega) (by omega)]; omega)]
    · rw [lz_t, s2, z800, z_20, n_add, if_neg (by rw [n_le _ _ (by omega) (by omega) (by omega) (by omega)]; omega)]
