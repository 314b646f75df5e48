/-! steps: a word, a number; what is wrong -/
def FX (s s' : MS) : Prop := (∀ j, (j < 4 ∨ j = 11 ∨ j = 12 ∨ 14 ≤ j) → s'.1 j = s.1 j) ∧ (∀ a, a ≠ 12 → a ≠ 16 → s'.2.2.1 a = s.2.2.1 a)
theorem FX_r (s : MS) : FX s s := ⟨fun _ _ => rfl, fun _ _ _ => rfl⟩
theorem FX_t {s s' s2 : MS} (h : FX s s') (g : FX s' s2) : FX s s2 := ⟨fun k hk => (g.1 k hk).trans (h.1 k hk), fun a ha hb => (g.2 a ha hb).trans (h.2 a ha hb)⟩
theorem FX_m {s s' : MS} (h : FMo s s') : FX s s' := ⟨fun k hk => h.1 k (by omega), fun a ha _ => h.2 a ha⟩
theorem FX_a (s : MS) (i : Nat) (v : Int32) : FX s (sA s 16 i v) := ⟨fun _ _ => rfl, fun a _ ha => uN_n _ _ _ _ ha⟩
def BAD (sRd sMo : MS) : Prop := sMo.1 13 = Int32.ofInt 1 ∧ sRd.1 0 = sMo.1 9 ∧ sRd.1 1 = sMo.1 10
def wrS (s : MS) (c p : Int32) : MS := sI (sI (sI s 13 1) 9 c) 10 p
theorem FX_w (s : MS) (c p : Int32) : FX s (wrS s c p) := by
  refine ⟨fun j hj => ?_, fun _ _ _ => rfl⟩
  unfold wrS
  rw [sI_n _ _ _ _ (by omega), sI_n _ _ _ _ (by omega), sI_n _ _ _ _ (by omega)]
def faS (s : MS) (c p : Int32) : MS := sI (sI s 0 c) 1 p
theorem BAD_w (sRd sMo : MS) (c p : Int32) : BAD (faS sRd c p) (wrS sMo c p) := by
  unfold BAD wrS faS
  refine ⟨?_, ?_, ?_⟩
  · rw [sI_n _ _ _ _ (by decide), sI_n _ _ _ _ (by decide), sI_s]; rfl
  · rw [sI_n _ _ _ _ (by decide), sI_s, sI_n _ _ _ _ (by decide), sI_s]
  · rw [sI_s, sI_s]
theorem fail_e {F : Nat} (c : Int32) (sRd : MS) : f_X7_failWith F c sRd = some (0, faS sRd c (sRd.1 6)) := rfl
theorem failAt_e {F : Nat} (c p : Int32) (sRd : MS) : f_X7_failAt F c p sRd = some (0, faS sRd c p) := rfl
theorem wrong_e {F : Nat} (c p : Int32) {s : MS} (h : s.1 13 = 0) : f_X11_wrong F c p s = some (wrS s c p) := by
  unfold f_X11_wrong wrS
  rw [h, if_pos rfl]
  rfl
theorem wrS_13 (s : MS) (c p : Int32) : (wrS s c p).1 13 = Int32.ofInt 1 := by
  unfold wrS
  rw [sI_n _ _ _ _ (by decide), sI_n _ _ _ _ (by decide), sI_s]; rfl
/-! after a failure the reference goes on without effect -/
theorem B_wrong {F : Nat} {c p : Int32} {s : MS} (h : s.1 13 = Int32.ofInt 1) : f_X11_wrong F c p s = some s := by
  unfold f_X11_wrong
  rw [h, if_neg (by decide)]
theorem B_isWord {F : Nat} {s : MS} {p : Nat} (h : s.1 13 = Int32.ofInt 1) : f_X11_isWord F s p = some (Int32.ofInt 0) := by
  unfold f_X11_isWord
  rw [h, if_neg (by decide)]; rfl
theorem B_takesWord {F : Nat} {s : MS} {p : Nat} (h : s.1 13 = Int32.ofInt 1) : f_X11_takesWord F p s = some (Int32.ofInt 0, s) := by
  unfold f_X11_takesWord
  rw [B_isWord h]; rfl
theorem B_must {F : Nat} {s : MS} {p : Nat} (h : s.1 13 = Int32.ofInt 1) : f_X11_must F p s = some s := by
  unfold f_X11_must
  rw [h, if_neg (by decide)]
theorem B_numberHere {F : Nat} {s : MS} {a b : Int32} (h : s.1 13 = Int32.ofInt 1) : f_X11_numberHere F a b s = some (a, s) := by
  unfold f_X11_numberHere
  rw [h, if_neg (by decide)]
theorem B_number {F : Nat} {s : MS} {a b : Int32} (h : s.1 13 = Int32.ofInt 1) : f_X11_number F a b s = some (a, s) := by
  unfold f_X11_number
  rw [B_numberHere h, bd_some, h, if_neg (by decide)]
theorem B_after {F : Nat} {s : MS} {a b : Int32} {p : Nat} (h : s.1 13 = Int32.ofInt 1) : f_X11_after F a b p s = some (a, s) := by
  unfold f_X11_after
  rw [B_must h, bd_some, B_number h]; rfl
def FT (om : Option MS) (s : MS) : Prop := ∃ s', om = some s' ∧ s'.1 = s.1 ∧ ∀ a, a ≠ 16 → s'.2.2.1 a = s.2.2.1 a
theorem FT_r (s : MS) : FT (some s) s := ⟨s, rfl, rfl, fun _ _ => rfl⟩
def KD (f : Nat → Int32) (e Lb : Nat) (sRd sMo sRd' sMo' : MS) : Prop := RD f e Lb sRd' sMo' ∧ FRw sRd sRd' ∧ FMo sMo sMo'
theorem ST_word {F : Nat} (hF : 1000 ≤ F) {f : Nat → Int32} {e Lb : Nat} {sRd sMo : MS} (hE : RZ f e sRd sMo) (hD : RD f e Lb sRd sMo) (h13 : sMo.1 13 = 0) {p : Nat} (hp : p < 15) : (∃ sRd' sMo', f_X7_passWord F 800 f p sRd = some (1, sRd') ∧ f_X11_must F p sMo = some sMo' ∧ KD f e Lb sRd sMo sRd' sMo') ∨ (∃ sRd' sMo', f_X7_passWord F 800 f p sRd = some (0, sRd') ∧ f_X11_must F p sMo = some sMo' ∧ BAD sRd' sMo' ∧ FX sMo sMo') := by
  obtain ⟨v, v1, v2, -⟩ := P_isWord hF hE hD h13 hp
  have h4 : sRd.1 6 = sMo.1 4 := by
    obtain ⟨a, b, d1, d2, d3, d4, -⟩ := hD
    rw [d3, d4]
  unfold f_X7_passWord f_X11_must f_X11_takesWord
  rw [v1, v2, h13, if_pos rfl, bd_some, bd_some]
  cases v with
  | false =>
    refine Or.inr ⟨faS sRd 1 (sRd.1 6), wrS sMo 1 (sMo.1 4), ?_, ?_, ?_, FX_w _ _ _⟩
    · rw [show bi false = 0 from rfl, if_pos rfl, fail_e]; rfl
    · rw [show bi false = 0 from rfl, if_pos rfl, bd_some, if_pos rfl, wrong_e _ _ h13]; rfl
    · rw [h4]; exact BAD_w _ _ _ _
  | true =>
    obtain ⟨sRd', sMo', z1, z2, z3, z4, z5⟩ := N_next hF hE hD
    refine Or.inl ⟨sRd', sMo', ?_, ?_, z3, FRd_w z4, z5⟩
    · rw [show bi true = 1 from rfl, if_neg (by decide), z1]; rfl
    · rw [show bi true = 1 from rfl, if_neg (by decide), z2, bd_some, bd_some]; rfl
theorem dv_b {f : Nat → Int32} {a : Nat} : ∀ m, m ≤ 3 → (∀ j, j < m → 48 ≤ (f (a + j)).toInt ∧ (f (a + j)).toInt ≤ 57) → 0 ≤ dv f a m ∧ dv f a m ≤ 999 := by
  intro m hm h
  have : m = 0 ∨ m = 1 ∨ m = 2 ∨ m = 3 := by omega
  rcases this with rfl | rfl | rfl | rfl
  · simp only [dv]; omega
  · have := h 0 (by omega)
    simp only [dv]; omega
  · have := h 0 (by omega)
    have := h 1 (by omega)
    simp only [dv]; omega
  · have := h 0 (by omega)
    have := h 1 (by omega)
    have := h 2 (by omega)
    simp only [dv]; omega
theorem whole_go {F : Nat} {f : Nat → Int32} {lo hi : Int32} {sRd : MS} {a b : Nat} (hb : b ≤ 800) (h7 : sRd.1 7 = Int32.ofInt (b : Int)) : ∀ (d k n : Nat) (v : Int32), k + d = b → d < n → a ≤ k → v = Int32.ofInt (dv f a (k - a)) → f_X7_passWhole_24 F 800 f lo hi n (Int32.ofInt (k : Int)) (sI sRd 8 v) = f_X7_passWhole_59 F 800 f lo hi (sI sRd 8 (Int32.ofInt (dv f a (b - a)))) := by
  intro d
  induction d with
  | zero =>
    intro k n v hk hn ha hv
    cases n with
    | zero => omega
    | succ n =>
      have e7 : (sI sRd 8 v).1 7 = Int32.ofInt (b : Int) := by rw [sI_n _ _ _ _ (by decide), h7]
      rw [f_X7_passWhole_24, e7, if_pos (by rw [n_le _ _ (by omega) (by omega) (by omega) (by omega)]; omega), hv, show k - a = b - a by omega]
  | succ d ih =>
    intro k n v hk hn ha hv
    cases n with
    | zero => omega
    | succ n =>
      have e7 : (sI sRd 8 v).1 7 = Int32.ofInt (b : Int) := by rw [sI_n _ _ _ _ (by decide), h7]
      have e8 : (sI sRd 8 v).1 8 = Int32.ofInt (dv f a (k - a)) := by rw [sI_s, hv]
      have ed : Int32.ofInt (dv f a (k - a) * 10 + (f k).toInt - 48) = Int32.ofInt (dv f a (k + 1 - a)) := by
        congr 1
        rw [show k + 1 - a = (k - a) + 1 by omega]
        show _ = 10 * dv f a (k - a) + (f (a + (k - a))).toInt - 48
        rw [show a + (k - a) = k by omega]
        omega
      rw [f_X7_passWhole_24, e7, if_neg (by rw [n_le _ _ (by omega) (by omega) (by omega) (by omega)]; omega), n_gd _ _ _ (by omega) (by omega) (by omega), n_ix _ (by omega) (by omega), tn, lz_t, lz_t, lz_t, e8, z_10, z_48, z_1, n_mul, n_out (f k), n_add, n_add, n_sub, ed, sI_2x]
      exact ih (k + 1) n _ (by omega) (by omega) (by omega) rfl
theorem ST_whole {F : Nat} (hF : 1000 ≤ F) {f : Nat → Int32} {e Lb : Nat} {sRd sMo : MS} (hE : RZ f e sRd sMo) (hD : RD f e Lb sRd sMo) (h13 : sMo.1 13 = 0) {lo hi : Int} (l1 : 0 ≤ lo) (l2 : lo ≤ 1) (l3 : 0 ≤ hi) (l4 : hi ≤ 999) : (∃ (v : Int) (sRd' sMo' : MS), lo ≤ v ∧ v ≤ hi ∧ f_X7_passWhole F 800 f (Int32.ofInt lo) (Int32.ofInt hi) sRd = some (1, sRd') ∧ sRd'.1 8 = Int32.ofInt v ∧ f_X11_number F (Int32.ofInt lo) (Int32.ofInt hi) sMo = some (Int32.ofInt v, sMo') ∧ KD f e Lb sRd sMo sRd' sMo') ∨ (∃ sRd' sMo', f_X7_passWhole F 800 f (Int32.ofInt lo) (Int32.ofInt hi) sRd = some (0, sRd') ∧ f_X11_number F (Int32.ofInt lo) (Int32.ofInt hi) sMo = some (Int32.ofInt lo, sMo') ∧ BAD sRd' sMo' ∧ FX sMo sMo') := by
  have he := hE.1
  obtain ⟨a, b, d1, d2, d3, d4, d5, d6, d7⟩ := hD
  have bad : ∀ (c : Int32) (s : MS), s.1 6 = sRd.1 6 → f_X7_passWhole F 800 f (Int32.ofInt lo) (Int32.ofInt hi) sRd = some (0, faS s c (s.1 6)) → f_X11_numberHere F (Int32.ofInt lo) (Int32.ofInt hi) sMo = some (Int32.ofInt lo, wrS sMo c (sMo.1 4)) → (∃ (v : Int) (sRd' sMo' : MS), lo ≤ v ∧ v ≤ hi ∧ f_X7_passWhole F 800 f (Int32.ofInt lo) (Int32.ofInt hi) sRd = some (1, sRd') ∧ sRd'.1 8 = Int32.ofInt v ∧ f_X11_number F (Int32.ofInt lo) (Int32.ofInt hi) sMo = some (Int32.ofInt v, sMo') ∧ KD f e Lb sRd sMo sRd' sMo') ∨ (∃ sRd' sMo', f_X7_passWhole F 800 f (Int32.ofInt lo) (Int32.ofInt hi) sRd = some (0, sRd') ∧ f_X11_number F (Int32.ofInt lo) (Int32.ofInt hi) sMo = some (Int32.ofInt lo, sMo') ∧ BAD sRd' sMo' ∧ FX sMo sMo') := by
    intro c s hs w1 w2
    refine Or.inr ⟨_, wrS sMo c (sMo.1 4), w1, ?_, ?_, FX_w _ _ _⟩
    · unfold f_X11_number
      rw [w2, bd_some, wrS_13, if_neg (by decide)]
    · rw [hs, d3, ← d4]
      exact BAD_w _ _ _ _
  have bad1 : sRd.1 5 ≠ 2 → sMo.1 6 ≠ 3 → _ := fun g1 g2 => bad 1 sRd rfl (by unfold f_X7_passWhole; rw [if_neg g1, fail_e]; rfl) (by unfold f_X11_numberHere; rw [h13, if_pos rfl, if_neg g2, wrong_e _ _ h13, bd_some]; unfold f_X11_numberHere_50; rw [wrS_13, if_neg (by decide)])
  rcases d7 with ⟨w1, w2⟩ | ⟨w1, w2, -⟩ | ⟨w1, w2, w3, w4, w5, w6⟩ | ⟨w1, w3, w2⟩ | ⟨w1, w2⟩
  · exact bad1 (by rw [w1]; decide) (by rw [w2]; decide)
  · exact bad1 (by rw [w1]; decide) (by rw [w2]; decide)
  · have db := dv_b (f := f) (a := a) (b - a) (by omega) w6
    have cls : f_X7_passWhole F 800 f (Int32.ofInt lo) (Int32.ofInt hi) sRd = f_X7_passWhole_59 F 800 f (Int32.ofInt lo) (Int32.ofInt hi) (sI sRd 8 (Int32.ofInt (dv f a (b - a)))) := by
      unfold f_X7_passWhole
      rw [w1, if_pos rfl, lz_t, sI_n _ _ _ _ (by decide), d3]
      exact whole_go (by omega) d5 (b - a) a F _ (by omega) (by omega) (by omega) (by rw [show a - a = 0 by omega]; rfl)
    have e8 : (sI sRd 8 (Int32.ofInt (dv f a (b - a)))).1 8 = Int32.ofInt (dv f a (b - a)) := sI_s _ _ _
    by_cases c : lo ≤ dv f a (b - a) ∧ dv f a (b - a) ≤ hi
    · have hD' : RD f e Lb (sI sRd 8 (Int32.ofInt (dv f a (b - a)))) sMo := ⟨a, b, d1, d2, by rw [sI_n _ _ _ _ (by decide), d3], d4, by rw [sI_n _ _ _ _ (by decide), d5], d6, Or.inr (Or.inr (Or.inl ⟨by rw [sI_n _ _ _ _ (by decide), w1], w2, w3, w4, w5, w6⟩))⟩
      obtain ⟨sRd', sMo', z1, z2, z3, z4, z5⟩ := N_next hF (RZ_f hE (FRw_i sRd _ (by omega)) (FMo_r _)) hD'
      refine Or.inl ⟨dv f a (b - a), sRd', sMo', c.1, c.2, ?_, ?_, ?_, z3, FRw_t (FRw_i sRd _ (by omega)) (FRd_w z4), z5⟩
      · rw [cls]
        unfold f_X7_passWhole_59
        rw [e8, if_neg (by rw [n_lt _ _ (by omega) (by omega) (by omega) (by omega)]; omega), if_pos (by rw [n_le _ _ (by omega) (by omega) (by omega) (by omega)]; omega), z1]; rfl
      · rw [z4.1 8 (Or.inr rfl), e8]
      · unfold f_X11_number f_X11_numberHere f_X11_numberHere_50 f_X11_in
        obtain ⟨c1, c2⟩ := c
        have w2' : sMo.1 6 = Int32.ofInt 3 := w2
        have h13' : sMo.1 13 = Int32.ofInt 0 := h13
        simp (disch := omega) only [z_0, z_1, z_2, z_3, z_4, z_5, z_6, z_7, z_8, z_9, z_10, z_11, z_12, z_14, z_18, z_20, z_22, z_24, z_32, z_38, z_40, z_41, z_44, z_48, z_49, z_57, z_59, z_60, z_63, z_65, z_74, z_75, z_81, z_97, z_99, z_104, z_115, z_119, z_122, z_200, z_209, z_210, z_219, z_228, z_255, z_300, z_369, z_999, z_65537, z_268435456, z_1000000000, n_nat, n_add, n_sub, n_mul, n_neg, n_lt, n_le, n_eq, n_ix, n_gd, n_nz, lz_t, bd_some, tn, Int.reduceToNat, tn_1, if_pos, if_neg, if_true, if_false, h13', w2', w5, z2]
    · refine bad 4 (sI sRd 8 (Int32.ofInt (dv f a (b - a)))) (sI_n _ _ _ _ (by decide)) ?_ ?_
      · rw [cls]
        unfold f_X7_passWhole_59 f_X7_passWhole_75
        rw [e8]
        by_cases c1 : dv f a (b - a) < lo
        · rw [if_pos (by rw [n_lt _ _ (by omega) (by omega) (by omega) (by omega)]; omega), fail_e]; rfl
        · rw [if_neg (by rw [n_lt _ _ (by omega) (by omega) (by omega) (by omega)]; omega), if_neg (by rw [n_le _ _ (by omega) (by omega) (by omega) (by omega)]; omega), fail_e]; rfl
      · unfold f_X11_numberHere
        have ein : f_X11_in F (sMo.1 7) (Int32.ofInt lo) (Int32.ofInt hi) = some 0 := by
          unfold f_X11_in
          rw [w5]
          by_cases c1 : dv f a (b - a) < lo
          · simp (disch := omega) only [z_0, z_1, z_2, z_3, z_4, z_5, z_6, z_7, z_8, z_9, z_10, z_11, z_12, z_14, z_18, z_20, z_22, z_24, z_32, z_38, z_40, z_41, z_44, z_48, z_49, z_57, z_59, z_60, z_63, z_65, z_74, z_75, z_81, z_97, z_99, z_104, z_115, z_119, z_122, z_200, z_209, z_210, z_219, z_228, z_255, z_300, z_369, z_999, z_65537, z_268435456, z_1000000000, n_nat, n_add, n_sub, n_mul, n_neg, n_lt, n_le, n_eq, n_ix, n_gd, n_nz, lz_t, bd_some, tn, Int.reduceToNat, tn_1, if_pos, if_neg, if_true, if_false]
          · simp (disch := omega) only [z_0, z_1, z_2, z_3, z_4, z_5, z_6, z_7, z_8, z_9, z_10, z_11, z_12, z_14, z_18, z_20, z_22, z_24, z_32, z_38, z_40, z_41, z_44, z_48, z_49, z_57, z_59, z_60, z_63, z_65, z_74, z_75, z_81, z_97, z_99, z_104, z_115, z_119, z_122, z_200, z_209, z_210, z_219, z_228, z_255, z_300, z_369, z_999, z_65537, z_268435456, z_1000000000, n_nat, n_add, n_sub, n_mul, n_neg, n_lt, n_le, n_eq, n_ix, n_gd, n_nz, lz_t, bd_some, tn, Int.reduceToNat, tn_1, if_pos, if_neg, if_true, if_false]
        rw [h13, if_pos rfl, w2, if_pos rfl, ein, bd_some, if_pos rfl, wrong_e _ _ h13, bd_some]
        unfold f_X11_numberHere_50
        rw [wrS_13, if_neg (by decide)]
  · exact bad1 (by rw [w1]; decide) (by rcases w2 with ⟨w2, -⟩ | ⟨w2, -⟩ <;> (rw [w2]; decide))
  · exact bad1 (by rw [w1]; decide) (by rw [w2]; decide)
