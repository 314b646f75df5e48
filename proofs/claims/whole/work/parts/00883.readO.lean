/-! the line of the way -/
def WI (N i : Nat) (r0 r : Nat → Int32) (s0 s : MS) : Prop :=
  (∀ k, (k < 200 ∨ 209 ≤ k) → r k = r0 k) ∧ s.1 = s0.1 ∧ (∀ a, a ≠ 15 → a ≠ 16 → s.2.2.1 a = s0.2.2.1 a) ∧
  (∀ j, j < i → ∃ w : Nat, w < N ∧ r (200 + j) = Int32.ofInt (w : Int) ∧ s.2.2.1 15 j = Int32.ofInt (w : Int)) ∧
  (∀ j, j + 1 < i → 0 < (r (38 + (9 * (r (200 + j)).toNatClampNeg + (r (200 + (j + 1))).toNatClampNeg))).toInt) ∧
  (0 < i → s.2.2.1 16 0 = Int32.ofInt 0) ∧
  (∀ j, j < i → ∃ u : Nat, u ≤ 40 * j ∧ s.2.2.1 16 j = Int32.ofInt (u : Int)) ∧
  (∀ j, j + 1 < i → (s.2.2.1 16 (j + 1)).toInt = (s.2.2.1 16 j).toInt + (r (38 + (9 * (r (200 + j)).toNatClampNeg + (r (200 + (j + 1))).toNatClampNeg))).toInt)
theorem NM_c {f : Nat → Int32} {e : Nat} {sRd : MS} {r r' : Nat → Int32} (h : ∀ k, k ≠ 8 → (k < 200 ∨ 209 ≤ k) → r' k = r k) (H : NM f e sRd r) : NM f e sRd r' := by
  intro n hn
  rw [h 5 (by omega) (by omega)] at hn
  obtain ⟨a0, b0, g1, g2, g3, g4, g5, g6, g7⟩ := H n hn
  refine ⟨a0, b0, g1, g2, g3, g4, g5, by rw [h _ (by omega) (by omega)]; exact g6, fun j hj => by rw [h _ (by omega) (by omega)]; exact g7 j hj⟩
def WS (f : Nat → Int32) (e Lb : Nat) (R s M sMo : MS) (N i : Nat) (r0 : Nat → Int32) (s0 : MS) : Prop :=
  CG f e Lb R M ∧ M.1 9 = 0 ∧ R.1 0 = 0 ∧ R.1 1 = -1 ∧ NM f e R r0 ∧ WI N i r0 (M.2.2.1 16) s0 s ∧ FX sMo M
theorem WS_k {f : Nat → Int32} {e Lb : Nat} {R s M sMo R' M' : MS} {N i : Nat} {r0 : Nat → Int32} {s0 : MS} (h : WS f e Lb R s M sMo N i r0 s0) (k : KD f e Lb R M R' M') : WS f e Lb R' s M' sMo N i r0 s0 := by
  obtain ⟨h1, h2, h3, h4, h5, h6, h7⟩ := h
  refine ⟨CG_k h1 k, (k.2.2.1 9 (by omega)).trans h2, (k.2.1.1 0 (by omega)).trans h3, (k.2.1.1 1 (by omega)).trans h4, ?_, ?_, FX_t h7 (FX_m k.2.2)⟩
  · unfold NM at *
    rw [k.2.1.2]
    exact h5
  · rw [k.2.2.2 16 (by decide)]
    exact h6
def LN3 (F : Nat) (f : Nat → Int32) (e Lb : Nat) (oc : Option (Int32 × MS × MS)) (om : Option MS) (sMo : MS) : Prop :=
  LN f e Lb oc om sMo ∨ (∃ R' s' s0, oc = some (1, R', s') ∧ R'.1 5 ≠ 0 ∧ f_X7_isSign F R' 800 f (Int32.ofInt 59) = some 0 ∧ BAD (faS R' 1 (R'.1 6)) s0 ∧ FX sMo s0 ∧ FT om s0)
theorem kind0 {f : Nat → Int32} {e Lb : Nat} {R M : MS} (h : RD f e Lb R M) : R.1 5 = 0 ↔ M.1 6 = 0 := by
  obtain ⟨a, b, d1, d2, d3, d4, d5, d6, d7⟩ := h
  rcases d7 with ⟨w1, w2⟩ | ⟨w1, w2, -⟩ | ⟨w1, w2, -⟩ | ⟨w1, w3, w2⟩ | ⟨w1, w2⟩
  · exact ⟨fun _ => w2, fun _ => w1⟩
  · rw [w1, w2]; decide
  · rw [w1, w2]; decide
  · rcases w2 with ⟨w2, -⟩ | ⟨w2, -⟩ <;> (rw [w1, w2]; decide)
  · rw [w1, w2]; decide
theorem B_way211 {F : Nat} {s : MS} {x : Int32} (h : s.1 13 = Int32.ofInt 1) : f_X11_wayLine_211 F x s = some s := by
  unfold f_X11_wayLine_211
  rw [h, if_neg (by decide)]
theorem way_end {f : Nat → Int32} {e Lb : Nat} {R s M sMo : MS} {N i : Nat} {r0 : Nat → Int32} {s0 : MS} (pk : PK r0) (rp : RP s0 r0) (hN : (r0 5).toInt = N) (h10 : r0 10 = 1) (i2 : 2 ≤ i) (i9 : i ≤ 9) (h : WS f e Lb R s M sMo N i r0 s0) : GD f e Lb R (sI s 8 (Int32.ofInt (i : Int))) (sA M 16 8 (Int32.ofInt (i : Int))) ∧ FX sMo (sA M 16 8 (Int32.ofInt (i : Int))) := by
  obtain ⟨h1, h2, h3, h4, h5, h6, h7⟩ := h
  have G := CG_a h1 8 (Int32.ofInt (i : Int))
  have eM : (sA M 16 8 (Int32.ofInt (i : Int))).2.2.1 16 = upd (M.2.2.1 16) 8 (Int32.ofInt (i : Int)) := sA_u _ _ _ _
  obtain ⟨a1, a2, a3, a4, a5, a6, a7, a8⟩ := h6
  have N9 : N ≤ 9 := by have := pk.nu.1.2; omega
  refine ⟨⟨G.1, G.2.1, G.2.2, h2, h3, h4, ?_, ?_, ?_⟩, FX_t h7 (FX_a _ _ _)⟩
  all_goals rw [eM]
  all_goals generalize hr : M.2.2.1 16 = r at *
  all_goals
    have hk : ∀ k, k ≠ 8 → (k < 200 ∨ 209 ≤ k) → upd r 8 (Int32.ofInt (i : Int)) k = r0 k := by
      intro k g1 g2
      rw [up_n _ _ _ _ g1, a1 k g2]
    have hw : ∀ k, 200 ≤ k → upd r 8 (Int32.ofInt (i : Int)) k = r k := fun k g => up_n _ _ _ _ (by omega)
    have hp : ∀ k, k < 81 → upd r 8 (Int32.ofInt (i : Int)) (38 + k) = r (38 + k) := fun k g => up_n _ _ _ _ (by omega)
    have g8 : upd r 8 (Int32.ofInt (i : Int)) 8 = Int32.ofInt (i : Int) := up_s _ _ _
    generalize upd r 8 (Int32.ofInt (i : Int)) = r' at *
    have t8 : (r' 8).toInt = i := by rw [g8, n_toI _ (by omega) (by omega)]
    have wy : ∀ j, j < i → ∃ w : Nat, w < N ∧ (r' (200 + j)).toInt = w ∧ (r' (200 + j)).toNatClampNeg = w ∧ r (200 + j) = r' (200 + j) := by
      intro j hj
      obtain ⟨w, w1, w2, w3⟩ := a4 j hj
      rw [hw _ (by omega), w2]
      exact ⟨w, w1, n_toI _ (by omega) (by omega), by rw [n_ix _ (by omega) (by omega), tn], rfl⟩
  · refine ⟨?_, ?_, RoK_c (r := r0) (fun k _ => hk _ (by omega) (by omega)) (by rw [hk 5 (by omega) (by omega)]; exact Int.le_refl _) pk.ro, MiK_c (r := r0) (fun k _ => hk _ (by omega) (by omega)) pk.mi, PuK_c (r := r0) (fun k _ => hk _ (by omega) (by omega)) pk.pu, ⟨?_, ?_⟩, ReK_c (r := r0) (hk 9 (by omega) (by omega)) (by have := pk.nu.2.2.2.2; omega) (fun k _ => hk _ (by omega) (by omega)) (fun k _ h => by rw [hk _ (by omega) (by omega)]; exact h) (by rw [hk 5 (by omega) (by omega)]; exact Int.le_refl _) (by omega) pk.re⟩
    · have := pk.ca
      unfold CaK at *
      rw [hk 10 (by omega) (by omega), hk 0 (by omega) (by omega), hk 1 (by omega) (by omega), hk 2 (by omega) (by omega), hk 3 (by omega) (by omega), hk 4 (by omega) (by omega)]
      rcases this with ⟨g, -⟩ | g
      · rw [h10] at g; exact absurd g (by decide)
      · exact Or.inr g
    · have := pk.nu
      unfold NuK at *
      rw [hk 5 (by omega) (by omega), hk 6 (by omega) (by omega), hk 7 (by omega) (by omega), hk 9 (by omega) (by omega), t8]
      exact ⟨this.1, this.2.1, this.2.2.1, by omega, this.2.2.2.2⟩
    · intro j hj
      rw [t8] at hj
      obtain ⟨w, w1, w2, w3, w4⟩ := wy j (by omega)
      rw [w2, hk 5 (by omega) (by omega)]
      omega
    · intro j hj
      rw [t8] at hj
      obtain ⟨w, w1, w2, w3, w4⟩ := wy j (by omega)
      obtain ⟨v, v1, v2, v3, v4⟩ := wy (j + 1) (by omega)
      have := a5 j (by omega)
      rw [w4, v4, w3, v3] at this
      rw [w3, v3, hp _ (by omega)]
      exact this
  · refine ⟨?_, fun k hk' => ?_, fun k hk' => ?_, fun p hp => ?_, fun j hj => ?_, fun hi => ?_, fun j hj => ?_, fun j hj => ?_⟩
    · intro k hk'
      by_cases c : k = 8
      · subst c
        rw [sI_s, g8]
      · rw [sI_n _ _ _ _ c, hk k c (by omega), a2]
        exact rp.num k hk'
    · rw [hk _ (by omega) (by omega)]
      show s.2.2.1 10 k = _
      rw [a3 10 (by decide) (by decide)]
      exact rp.pin k hk'
    · rw [hk _ (by omega) (by omega)]
      show s.2.2.1 11 k = _
      rw [a3 11 (by decide) (by decide)]
      exact rp.min k hk'
    · rw [hk _ (by omega) (by omega), hk _ (by omega) (by omega), hk _ (by omega) (by omega)]
      show s.2.2.1 12 p = _ ∧ s.2.2.1 13 p = _ ∧ s.2.2.1 14 p = _
      rw [a3 12 (by decide) (by decide), a3 13 (by decide) (by decide), a3 14 (by decide) (by decide)]
      exact rp.pum p hp
    · rw [t8] at hj
      obtain ⟨w, w1, w2, w3⟩ := a4 j (by omega)
      rw [hw _ (by omega), w2]
      exact w3
    · show (s.2.2.1 16 0).toInt = 0
      rw [a6 (by omega)]
      rfl
    · rw [t8] at hj
      obtain ⟨w, w1, w2, w3, w4⟩ := wy j (by omega)
      obtain ⟨v, v1, v2, v3, v4⟩ := wy (j + 1) (by omega)
      have := a8 j (by omega)
      rw [w4, v4, w3, v3] at this
      rw [w3, v3, hp _ (by omega)]
      exact this
    · rw [hk 9 (by omega) (by omega)] at hj
      have := pk.nu.2.2.2.2
      rw [hk _ (by omega) (by omega), hk _ (by omega) (by omega)]
      show s.2.2.1 17 j = _ ∧ s.2.2.1 18 j = _
      rw [a3 17 (by decide) (by decide), a3 18 (by decide) (by decide)]
      exact rp.rec j hj
  · exact NM_c hk h5
theorem way_out {F : Nat} {f : Nat → Int32} {e Lb : Nat} {R s M sMo : MS} {N i : Nat} {r0 : Nat → Int32} {s0 : MS} (pk : PK r0) (rp : RP s0 r0) (hN : (r0 5).toInt = N) (h10 : r0 10 = 1) (i1 : 1 ≤ i) (i9 : i ≤ 9) (h : WS f e Lb R s M sMo N i r0 s0) : LN3 F f e Lb (f_X7_readWay_161 F 800 f (Int32.ofInt (i : Int)) R s) (f_X11_wayLine_169 F (Int32.ofInt (i : Int)) M) sMo := by
  have h13 := h.1.2.2
  have e4 := RD_46 h.1.2.1
  unfold f_X7_readWay_161 f_X11_wayLine_169
  rw [h13, if_pos rfl]
  by_cases c : 2 ≤ i
  · rw [if_neg (by rw [z_1, n_eq _ _ (by omega) (by omega) (by omega) (by omega)]; omega), if_pos (by rw [z_2, n_le _ _ (by omega) (by omega) (by omega) (by omega)]; omega)]
    obtain ⟨G, X⟩ := way_end pk rp hN h10 c i9 h
    refine Or.inl (Or.inl ⟨R, sI s 8 (Int32.ofInt (i : Int)), sA M 16 8 (Int32.ofInt (i : Int)), rfl, ?_, G, X⟩)
    unfold f_X11_wayLine_211
    rw [h13, if_pos rfl, gd_t (by decide)]
    rfl
  · have : i = 1 := by omega
    subst this
    have W : ∀ c, f_X11_wayLine_204 F (Int32.ofInt ((1 : Nat) : Int)) c M = some (wrS M c (M.1 4)) := by
      intro c
      unfold f_X11_wayLine_204
      rw [wrong_e _ _ h13, bd_some, B_way211 (wrS_13 _ _ _)]
    have W2 : f_X7_readWay_182 F 800 f R s = some (0, faS R 6 (R.1 6), s) := by
      unfold f_X7_readWay_182
      rw [fail_e]; rfl
    obtain ⟨v, v1, v2⟩ := T_sign (F := F) h.1.1 h.1.2.1 (c := 59) (Or.inr rfl)
    have v1' : f_X7_isSign F R 800 f 59 = some (bi v) := v1
    rw [if_pos (show Int32.ofInt ((1 : Nat) : Int) = 1 from rfl), if_neg (show ¬ (2 : Int32) ≤ Int32.ofInt ((1 : Nat) : Int) by decide), v1', bd_some]
    unfold f_X11_wayLine_198
    rw [W, W]
    have k0 := kind0 h.1.2.1
    have bad : ∀ c, BAD (faS R c (R.1 6)) (wrS M c (M.1 4)) := fun c => by rw [e4]; exact BAD_w _ _ _ _
    by_cases c0 : R.1 5 = 0
    · refine Or.inl (Or.inr ⟨faS R 6 (R.1 6), s, wrS M 6 (M.1 4), by rw [if_pos c0, W2], bad 6, FX_t h.2.2.2.2.2.2 (FX_w _ _ _), ?_⟩)
      rw [if_pos (k0.1 c0)]
      split <;> exact FT_r _
    · rw [if_neg c0]
      cases v with
      | true =>
        refine Or.inl (Or.inr ⟨faS R 6 (R.1 6), s, wrS M 6 (M.1 4), by rw [if_neg (show ¬ bi true = 0 by decide), W2], bad 6, FX_t h.2.2.2.2.2.2 (FX_w _ _ _), ?_⟩)
        rw [if_pos (show M.1 6 = 59 from v2.1 rfl)]
        exact FT_r _
      | false =>
        have n59 : ¬ M.1 6 = 59 := fun g => by have := v2.2 g; exact absurd this (by decide)
        refine Or.inr ⟨R, sI s 8 (Int32.ofInt ((1 : Nat) : Int)), wrS M 1 (M.1 4), by rw [if_pos (show bi false = 0 from rfl)]; rfl, c0, v1, bad 1, FX_t h.2.2.2.2.2.2 (FX_w _ _ _), ?_⟩
        rw [if_neg n59, if_neg (fun g => c0 (k0.2 g))]
        exact FT_r _
